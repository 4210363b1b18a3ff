theorem e64_0 (v1 : Value) (x : Nat) (st : List Value) (w : zH) : zrun none (64, 0, [.ref x, v1], st, w) = zrun none (64, 1, [.ref x, v1], (.ref x :: st), w) := (zE_ (i := .aload_n 0) (by decide +kernel) _ _ _).trans rfl
theorem e64_1 (ls : List Value) (a : Nat) (st : List Value) (w : zH) (h : a < zX) (hr : zcat st ≤ 8) : zrun none (64, 1, ls, (.ref a :: st), w) = zrun none (64, 4, ls, st, w) := by
  refine (zE_ (i := .invokespecial 998) (by decide +kernel) _ _ _).trans ?_
  simp only [zI, if_true]
  rw [if_pos ⟨hr, h⟩]
  rfl
theorem e64_4 (v1 : Value) (x : Nat) (st : List Value) (w : zH) : zrun none (64, 4, [.ref x, v1], st, w) = zrun none (64, 5, [.ref x, v1], (.ref x :: st), w) := (zE_ (i := .aload_n 0) (by decide +kernel) _ _ _).trans rfl
theorem e64_5 (ls st : List Value) (w : zH) : zrun none (64, 5, ls, st, w) = zrun none (64, 7, ls, (.int 8 :: st), w) := (zE_ (i := .bipush 8) (by decide +kernel) _ _ _).trans rfl
theorem e64_7 (ls : List Value) (n : Int32) (st : List Value) (w : zH) (h0 : ¬ n < 0 ∧ n ≤ 65536) (h : w.length + 1 < zX) : zrun none (64, 7, ls, (.int n :: st), w) = zrun none (64, 10, ls, (.ref w.length :: st), w ++ [(208, List.replicate n.toNatClampNeg (.null))]) := by
  refine (zE_ (i := .anewarray 208) (by decide +kernel) _ _ _).trans ?_
  simp only [zI]
  rw [if_pos (by decide)]
  unfold znwa
  dsimp only
  rw [if_pos h0]
  unfold znw
  rw [if_pos h]
  rfl
theorem e64_10 (ls : List Value) (x : Nat) (a : Nat) (st : List Value) (w : zH) : zrun none (64, 10, ls, (.ref x :: .ref a :: st), w) = zgd (a < zX ∧ (zf w a 1100).isSome = true) (zrun none (64, 13, ls, st, zpf w a 1100 (.ref x))) := by
  refine (zE_ (i := .putfield 1100) (by decide +kernel) _ _ _).trans ?_
  by_cases hg : a < zX ∧ (zf w a 1100).isSome = true
  · rw [zgd_pos hg]
    obtain ⟨ha, h⟩ := hg
    exact zq_putf ha h rfl rfl
  · rw [zgd_neg hg]
    exact zq_putf_no (fun h1 h2 h3 => hg ⟨h1, h2⟩)
theorem e64_13 (v1 : Value) (x : Nat) (st : List Value) (w : zH) : zrun none (64, 13, [.ref x, v1], st, w) = zrun none (64, 14, [.ref x, v1], (.ref x :: st), w) := (zE_ (i := .aload_n 0) (by decide +kernel) _ _ _).trans rfl
theorem e64_14 (ls st : List Value) (w : zH) : zrun none (64, 14, ls, st, w) = zgd (w.length + 1 < zX) (zrun none (64, 17, ls, (.ref w.length :: st), w ++ [(3, [.null, .int 0, .int 0])])) := by
  refine (zE_ (i := .new 3) (by decide +kernel) _ _ _).trans ?_
  simp only [zI]
  rw [if_pos (by decide)]
  unfold znw
  by_cases h : w.length + 1 < zX
  · rw [if_pos h, zgd_pos h]
    rfl
  · rw [if_neg h, zgd_neg h]
    rfl
theorem e64_17 (ls : List Value) (x : Int32) (st : List Value) (w : zH) : zrun none (64, 17, ls, (.int x :: st), w) = zrun none (64, 18, ls, (.int x :: .int x :: st), w) := (zE_ (i := .dup) (by decide +kernel) _ _ _).trans rfl
theorem e64_17r (ls : List Value) (x : Nat) (st : List Value) (w : zH) : zrun none (64, 17, ls, (.ref x :: st), w) = zrun none (64, 18, ls, (.ref x :: .ref x :: st), w) := (zE_ (i := .dup) (by decide +kernel) _ _ _).trans rfl
theorem e64_18 (ls : List Value) (a : Nat) (st : List Value) (w : zH) (hr : zcat st ≤ 8) : zrun none (64, 18, ls, (.ref a :: st), w) = zgd (zis w a 3) (zcl (zrun none (13, 0, [.ref a], [], w)) (fun r => zrun none (64, 21, ls, r.1.toList ++ st, r.2))) := by
  refine (zE_ (i := .invokespecial 13) (by decide +kernel) _ _ _).trans ?_
  show zres (zinv none 13 64 18 ls (.ref a :: st) w) = _
  unfold zinv
  show zres (if zrc none 13 w (.ref a) = true then zcall 13 [.ref a] st 64 18 ls w else none) = _
  by_cases hc : zis w a 3
  · rw [if_pos (zrc_is hc (by decide +kernel)), zgd_pos hc]
    exact zq_call hr (Nat.le_of_ble_eq_true rfl) rfl rfl
  · rw [zgd_neg hc, if_neg (fun q => hc (zrc_of q (by decide +kernel)))]
    rfl
theorem e64_21 (ls : List Value) (x : Nat) (a : Nat) (st : List Value) (w : zH) : zrun none (64, 21, ls, (.ref x :: .ref a :: st), w) = zgd (a < zX ∧ (zf w a 1101).isSome = true) (zrun none (64, 24, ls, st, zpf w a 1101 (.ref x))) := by
  refine (zE_ (i := .putfield 1101) (by decide +kernel) _ _ _).trans ?_
  by_cases hg : a < zX ∧ (zf w a 1101).isSome = true
  · rw [zgd_pos hg]
    obtain ⟨ha, h⟩ := hg
    exact zq_putf ha h rfl rfl
  · rw [zgd_neg hg]
    exact zq_putf_no (fun h1 h2 h3 => hg ⟨h1, h2⟩)
theorem e64_24 (v1 : Value) (x : Nat) (st : List Value) (w : zH) : zrun none (64, 24, [.ref x, v1], st, w) = zrun none (64, 25, [.ref x, v1], (.ref x :: st), w) := (zE_ (i := .aload_n 0) (by decide +kernel) _ _ _).trans rfl
theorem e64_25 (ls st : List Value) (w : zH) : zrun none (64, 25, ls, st, w) = zrun none (64, 27, ls, (.int 16 :: st), w) := (zE_ (i := .bipush 16) (by decide +kernel) _ _ _).trans rfl
theorem e64_27 (ls : List Value) (n : Int32) (st : List Value) (w : zH) (h0 : ¬ n < 0 ∧ n ≤ 65536) (h : w.length + 1 < zX) : zrun none (64, 27, ls, (.int n :: st), w) = zrun none (64, 30, ls, (.ref w.length :: st), w ++ [(207, List.replicate n.toNatClampNeg (.null))]) := by
  refine (zE_ (i := .anewarray 207) (by decide +kernel) _ _ _).trans ?_
  simp only [zI]
  rw [if_pos (by decide)]
  unfold znwa
  dsimp only
  rw [if_pos h0]
  unfold znw
  rw [if_pos h]
  rfl
theorem e64_30 (ls : List Value) (x : Nat) (a : Nat) (st : List Value) (w : zH) : zrun none (64, 30, ls, (.ref x :: .ref a :: st), w) = zgd (a < zX ∧ (zf w a 1102).isSome = true) (zrun none (64, 33, ls, st, zpf w a 1102 (.ref x))) := by
  refine (zE_ (i := .putfield 1102) (by decide +kernel) _ _ _).trans ?_
  by_cases hg : a < zX ∧ (zf w a 1102).isSome = true
  · rw [zgd_pos hg]
    obtain ⟨ha, h⟩ := hg
    exact zq_putf ha h rfl rfl
  · rw [zgd_neg hg]
    exact zq_putf_no (fun h1 h2 h3 => hg ⟨h1, h2⟩)
theorem e64_33 (v1 : Value) (x : Nat) (st : List Value) (w : zH) : zrun none (64, 33, [.ref x, v1], st, w) = zrun none (64, 34, [.ref x, v1], (.ref x :: st), w) := (zE_ (i := .aload_n 0) (by decide +kernel) _ _ _).trans rfl
theorem e64_34 (ls st : List Value) (w : zH) : zrun none (64, 34, ls, st, w) = zgd (w.length + 1 < zX) (zrun none (64, 37, ls, (.ref w.length :: st), w ++ [(9, [.null, .int 0, .int 0, .int 0, .int 0, .int 0, .int 0])])) := by
  refine (zE_ (i := .new 9) (by decide +kernel) _ _ _).trans ?_
  simp only [zI]
  rw [if_pos (by decide)]
  unfold znw
  by_cases h : w.length + 1 < zX
  · rw [if_pos h, zgd_pos h]
    rfl
  · rw [if_neg h, zgd_neg h]
    rfl
theorem e64_37 (ls : List Value) (x : Int32) (st : List Value) (w : zH) : zrun none (64, 37, ls, (.int x :: st), w) = zrun none (64, 38, ls, (.int x :: .int x :: st), w) := (zE_ (i := .dup) (by decide +kernel) _ _ _).trans rfl
theorem e64_37r (ls : List Value) (x : Nat) (st : List Value) (w : zH) : zrun none (64, 37, ls, (.ref x :: st), w) = zrun none (64, 38, ls, (.ref x :: .ref x :: st), w) := (zE_ (i := .dup) (by decide +kernel) _ _ _).trans rfl
theorem e64_38 (ls : List Value) (a : Nat) (st : List Value) (w : zH) (hr : zcat st ≤ 8) : zrun none (64, 38, ls, (.ref a :: st), w) = zgd (zis w a 9) (zcl (zrun none (44, 0, [.ref a], [], w)) (fun r => zrun none (64, 41, ls, r.1.toList ++ st, r.2))) := by
  refine (zE_ (i := .invokespecial 44) (by decide +kernel) _ _ _).trans ?_
  show zres (zinv none 44 64 38 ls (.ref a :: st) w) = _
  unfold zinv
  show zres (if zrc none 44 w (.ref a) = true then zcall 44 [.ref a] st 64 38 ls w else none) = _
  by_cases hc : zis w a 9
  · rw [if_pos (zrc_is hc (by decide +kernel)), zgd_pos hc]
    exact zq_call hr (Nat.le_of_ble_eq_true rfl) rfl rfl
  · rw [zgd_neg hc, if_neg (fun q => hc (zrc_of q (by decide +kernel)))]
    rfl
theorem e64_41 (ls : List Value) (x : Nat) (a : Nat) (st : List Value) (w : zH) : zrun none (64, 41, ls, (.ref x :: .ref a :: st), w) = zgd (a < zX ∧ (zf w a 1104).isSome = true) (zrun none (64, 44, ls, st, zpf w a 1104 (.ref x))) := by
  refine (zE_ (i := .putfield 1104) (by decide +kernel) _ _ _).trans ?_
  by_cases hg : a < zX ∧ (zf w a 1104).isSome = true
  · rw [zgd_pos hg]
    obtain ⟨ha, h⟩ := hg
    exact zq_putf ha h rfl rfl
  · rw [zgd_neg hg]
    exact zq_putf_no (fun h1 h2 h3 => hg ⟨h1, h2⟩)
theorem e64_44 (v1 : Value) (x : Nat) (st : List Value) (w : zH) : zrun none (64, 44, [.ref x, v1], st, w) = zrun none (64, 45, [.ref x, v1], (.ref x :: st), w) := (zE_ (i := .aload_n 0) (by decide +kernel) _ _ _).trans rfl
theorem e64_45 (ls st : List Value) (w : zH) : zrun none (64, 45, ls, st, w) = zrun none (64, 47, ls, (.int 24 :: st), w) := (zE_ (i := .bipush 24) (by decide +kernel) _ _ _).trans rfl
theorem e64_47 (ls : List Value) (n : Int32) (st : List Value) (w : zH) (h0 : ¬ n < 0 ∧ n ≤ 65536) (h : w.length + 1 < zX) : zrun none (64, 47, ls, (.int n :: st), w) = zrun none (64, 50, ls, (.ref w.length :: st), w ++ [(200, List.replicate n.toNatClampNeg (.null))]) := by
  refine (zE_ (i := .anewarray 200) (by decide +kernel) _ _ _).trans ?_
  simp only [zI]
  rw [if_pos (by decide)]
  unfold znwa
  dsimp only
  rw [if_pos h0]
  unfold znw
  rw [if_pos h]
  rfl
theorem e64_50 (ls : List Value) (x : Nat) (a : Nat) (st : List Value) (w : zH) : zrun none (64, 50, ls, (.ref x :: .ref a :: st), w) = zgd (a < zX ∧ (zf w a 1105).isSome = true) (zrun none (64, 53, ls, st, zpf w a 1105 (.ref x))) := by
  refine (zE_ (i := .putfield 1105) (by decide +kernel) _ _ _).trans ?_
  by_cases hg : a < zX ∧ (zf w a 1105).isSome = true
  · rw [zgd_pos hg]
    obtain ⟨ha, h⟩ := hg
    exact zq_putf ha h rfl rfl
  · rw [zgd_neg hg]
    exact zq_putf_no (fun h1 h2 h3 => hg ⟨h1, h2⟩)
theorem e64_53 (v1 : Value) (x : Nat) (st : List Value) (w : zH) : zrun none (64, 53, [.ref x, v1], st, w) = zrun none (64, 54, [.ref x, v1], (.ref x :: st), w) := (zE_ (i := .aload_n 0) (by decide +kernel) _ _ _).trans rfl
theorem e64_54 (ls st : List Value) (w : zH) : zrun none (64, 54, ls, st, w) = zrun none (64, 56, ls, (.int 10 :: st), w) := (zE_ (i := .bipush 10) (by decide +kernel) _ _ _).trans rfl
theorem e64_56 (ls : List Value) (n : Int32) (st : List Value) (w : zH) (h0 : ¬ n < 0 ∧ n ≤ 65536) (h : w.length + 1 < zX) : zrun none (64, 56, ls, (.int n :: st), w) = zrun none (64, 59, ls, (.ref w.length :: st), w ++ [(204, List.replicate n.toNatClampNeg (.null))]) := by
  refine (zE_ (i := .anewarray 204) (by decide +kernel) _ _ _).trans ?_
  simp only [zI]
  rw [if_pos (by decide)]
  unfold znwa
  dsimp only
  rw [if_pos h0]
  unfold znw
  rw [if_pos h]
  rfl
theorem e64_59 (ls : List Value) (x : Nat) (a : Nat) (st : List Value) (w : zH) : zrun none (64, 59, ls, (.ref x :: .ref a :: st), w) = zgd (a < zX ∧ (zf w a 1108).isSome = true) (zrun none (64, 62, ls, st, zpf w a 1108 (.ref x))) := by
  refine (zE_ (i := .putfield 1108) (by decide +kernel) _ _ _).trans ?_
  by_cases hg : a < zX ∧ (zf w a 1108).isSome = true
  · rw [zgd_pos hg]
    obtain ⟨ha, h⟩ := hg
    exact zq_putf ha h rfl rfl
  · rw [zgd_neg hg]
    exact zq_putf_no (fun h1 h2 h3 => hg ⟨h1, h2⟩)
theorem e64_62 (v1 : Value) (x : Nat) (st : List Value) (w : zH) : zrun none (64, 62, [.ref x, v1], st, w) = zrun none (64, 63, [.ref x, v1], (.ref x :: st), w) := (zE_ (i := .aload_n 0) (by decide +kernel) _ _ _).trans rfl
theorem e64_63 (ls st : List Value) (w : zH) : zrun none (64, 63, ls, st, w) = zgd (w.length + 1 < zX) (zrun none (64, 66, ls, (.ref w.length :: st), w ++ [(6, [.null, .null, .int 0])])) := by
  refine (zE_ (i := .new 6) (by decide +kernel) _ _ _).trans ?_
  simp only [zI]
  rw [if_pos (by decide)]
  unfold znw
  by_cases h : w.length + 1 < zX
  · rw [if_pos h, zgd_pos h]
    rfl
  · rw [if_neg h, zgd_neg h]
    rfl
theorem e64_66 (ls : List Value) (x : Int32) (st : List Value) (w : zH) : zrun none (64, 66, ls, (.int x :: st), w) = zrun none (64, 67, ls, (.int x :: .int x :: st), w) := (zE_ (i := .dup) (by decide +kernel) _ _ _).trans rfl
theorem e64_66r (ls : List Value) (x : Nat) (st : List Value) (w : zH) : zrun none (64, 66, ls, (.ref x :: st), w) = zrun none (64, 67, ls, (.ref x :: .ref x :: st), w) := (zE_ (i := .dup) (by decide +kernel) _ _ _).trans rfl
theorem e64_67 (ls : List Value) (a : Nat) (st : List Value) (w : zH) (hr : zcat st ≤ 8) : zrun none (64, 67, ls, (.ref a :: st), w) = zgd (zis w a 6) (zcl (zrun none (23, 0, [.ref a], [], w)) (fun r => zrun none (64, 70, ls, r.1.toList ++ st, r.2))) := by
  refine (zE_ (i := .invokespecial 23) (by decide +kernel) _ _ _).trans ?_
  show zres (zinv none 23 64 67 ls (.ref a :: st) w) = _
  unfold zinv
  show zres (if zrc none 23 w (.ref a) = true then zcall 23 [.ref a] st 64 67 ls w else none) = _
  by_cases hc : zis w a 6
  · rw [if_pos (zrc_is hc (by decide +kernel)), zgd_pos hc]
    exact zq_call hr (Nat.le_of_ble_eq_true rfl) rfl rfl
  · rw [zgd_neg hc, if_neg (fun q => hc (zrc_of q (by decide +kernel)))]
    rfl
theorem e64_70 (ls : List Value) (x : Nat) (a : Nat) (st : List Value) (w : zH) : zrun none (64, 70, ls, (.ref x :: .ref a :: st), w) = zgd (a < zX ∧ (zf w a 1110).isSome = true) (zrun none (64, 73, ls, st, zpf w a 1110 (.ref x))) := by
  refine (zE_ (i := .putfield 1110) (by decide +kernel) _ _ _).trans ?_
  by_cases hg : a < zX ∧ (zf w a 1110).isSome = true
  · rw [zgd_pos hg]
    obtain ⟨ha, h⟩ := hg
    exact zq_putf ha h rfl rfl
  · rw [zgd_neg hg]
    exact zq_putf_no (fun h1 h2 h3 => hg ⟨h1, h2⟩)
theorem e64_73 (v1 : Value) (x : Nat) (st : List Value) (w : zH) : zrun none (64, 73, [.ref x, v1], st, w) = zrun none (64, 74, [.ref x, v1], (.ref x :: st), w) := (zE_ (i := .aload_n 0) (by decide +kernel) _ _ _).trans rfl
theorem e64_74 (ls st : List Value) (w : zH) : zrun none (64, 74, ls, st, w) = zrun none (64, 76, ls, (.int 20 :: st), w) := (zE_ (i := .bipush 20) (by decide +kernel) _ _ _).trans rfl
theorem e64_76 (ls : List Value) (n : Int32) (st : List Value) (w : zH) (h0 : ¬ n < 0 ∧ n ≤ 65536) (h : w.length + 1 < zX) : zrun none (64, 76, ls, (.int n :: st), w) = zrun none (64, 79, ls, (.ref w.length :: st), w ++ [(210, List.replicate n.toNatClampNeg (.null))]) := by
  refine (zE_ (i := .anewarray 210) (by decide +kernel) _ _ _).trans ?_
  simp only [zI]
  rw [if_pos (by decide)]
  unfold znwa
  dsimp only
  rw [if_pos h0]
  unfold znw
  rw [if_pos h]
  rfl
theorem e64_79 (ls : List Value) (x : Nat) (a : Nat) (st : List Value) (w : zH) : zrun none (64, 79, ls, (.ref x :: .ref a :: st), w) = zgd (a < zX ∧ (zf w a 1111).isSome = true) (zrun none (64, 82, ls, st, zpf w a 1111 (.ref x))) := by
  refine (zE_ (i := .putfield 1111) (by decide +kernel) _ _ _).trans ?_
  by_cases hg : a < zX ∧ (zf w a 1111).isSome = true
  · rw [zgd_pos hg]
    obtain ⟨ha, h⟩ := hg
    exact zq_putf ha h rfl rfl
  · rw [zgd_neg hg]
    exact zq_putf_no (fun h1 h2 h3 => hg ⟨h1, h2⟩)
theorem e64_82 (v1 : Value) (x : Nat) (st : List Value) (w : zH) : zrun none (64, 82, [.ref x, v1], st, w) = zrun none (64, 83, [.ref x, v1], (.ref x :: st), w) := (zE_ (i := .aload_n 0) (by decide +kernel) _ _ _).trans rfl
theorem e64_83 (ls st : List Value) (w : zH) : zrun none (64, 83, ls, st, w) = zrun none (64, 85, ls, (.int 12 :: st), w) := (zE_ (i := .bipush 12) (by decide +kernel) _ _ _).trans rfl
theorem e64_85 (ls : List Value) (n : Int32) (st : List Value) (w : zH) (h0 : ¬ n < 0 ∧ n ≤ 65536) (h : w.length + 1 < zX) : zrun none (64, 85, ls, (.int n :: st), w) = zrun none (64, 87, ls, (.ref w.length :: st), w ++ [(100, List.replicate n.toNatClampNeg (.int 0))]) := by
  refine (zE_ (i := .newarray .int) (by decide +kernel) _ _ _).trans ?_
  simp only [zI]
  unfold znwa
  dsimp only
  rw [if_pos h0]
  unfold znw
  rw [if_pos h]
  rfl
theorem e64_87 (ls : List Value) (x : Nat) (a : Nat) (st : List Value) (w : zH) : zrun none (64, 87, ls, (.ref x :: .ref a :: st), w) = zgd (a < zX ∧ (zf w a 1113).isSome = true) (zrun none (64, 90, ls, st, zpf w a 1113 (.ref x))) := by
  refine (zE_ (i := .putfield 1113) (by decide +kernel) _ _ _).trans ?_
  by_cases hg : a < zX ∧ (zf w a 1113).isSome = true
  · rw [zgd_pos hg]
    obtain ⟨ha, h⟩ := hg
    exact zq_putf ha h rfl rfl
  · rw [zgd_neg hg]
    exact zq_putf_no (fun h1 h2 h3 => hg ⟨h1, h2⟩)
theorem e64_90 (v1 : Value) (x : Nat) (st : List Value) (w : zH) : zrun none (64, 90, [.ref x, v1], st, w) = zrun none (64, 91, [.ref x, v1], (.ref x :: st), w) := (zE_ (i := .aload_n 0) (by decide +kernel) _ _ _).trans rfl
theorem e64_91 (ls st : List Value) (w : zH) : zrun none (64, 91, ls, st, w) = zrun none (64, 93, ls, (.int 12 :: st), w) := (zE_ (i := .bipush 12) (by decide +kernel) _ _ _).trans rfl
theorem e64_93 (ls : List Value) (n : Int32) (st : List Value) (w : zH) (h0 : ¬ n < 0 ∧ n ≤ 65536) (h : w.length + 1 < zX) : zrun none (64, 93, ls, (.int n :: st), w) = zrun none (64, 95, ls, (.ref w.length :: st), w ++ [(100, List.replicate n.toNatClampNeg (.int 0))]) := by
  refine (zE_ (i := .newarray .int) (by decide +kernel) _ _ _).trans ?_
  simp only [zI]
  unfold znwa
  dsimp only
  rw [if_pos h0]
  unfold znw
  rw [if_pos h]
  rfl
theorem e64_95 (ls : List Value) (x : Nat) (a : Nat) (st : List Value) (w : zH) : zrun none (64, 95, ls, (.ref x :: .ref a :: st), w) = zgd (a < zX ∧ (zf w a 1114).isSome = true) (zrun none (64, 98, ls, st, zpf w a 1114 (.ref x))) := by
  refine (zE_ (i := .putfield 1114) (by decide +kernel) _ _ _).trans ?_
  by_cases hg : a < zX ∧ (zf w a 1114).isSome = true
  · rw [zgd_pos hg]
    obtain ⟨ha, h⟩ := hg
    exact zq_putf ha h rfl rfl
  · rw [zgd_neg hg]
    exact zq_putf_no (fun h1 h2 h3 => hg ⟨h1, h2⟩)
theorem e64_98 (v1 : Value) (x : Nat) (st : List Value) (w : zH) : zrun none (64, 98, [.ref x, v1], st, w) = zrun none (64, 99, [.ref x, v1], (.ref x :: st), w) := (zE_ (i := .aload_n 0) (by decide +kernel) _ _ _).trans rfl
theorem e64_99 (ls st : List Value) (w : zH) : zrun none (64, 99, ls, st, w) = zgd (w.length + 1 < zX) (zrun none (64, 102, ls, (.ref w.length :: st), w ++ [(2, [.null, .null, .int 0])])) := by
  refine (zE_ (i := .new 2) (by decide +kernel) _ _ _).trans ?_
  simp only [zI]
  rw [if_pos (by decide)]
  unfold znw
  by_cases h : w.length + 1 < zX
  · rw [if_pos h, zgd_pos h]
    rfl
  · rw [if_neg h, zgd_neg h]
    rfl
theorem e64_102 (ls : List Value) (x : Int32) (st : List Value) (w : zH) : zrun none (64, 102, ls, (.int x :: st), w) = zrun none (64, 103, ls, (.int x :: .int x :: st), w) := (zE_ (i := .dup) (by decide +kernel) _ _ _).trans rfl
theorem e64_102r (ls : List Value) (x : Nat) (st : List Value) (w : zH) : zrun none (64, 102, ls, (.ref x :: st), w) = zrun none (64, 103, ls, (.ref x :: .ref x :: st), w) := (zE_ (i := .dup) (by decide +kernel) _ _ _).trans rfl
theorem e64_103 (ls : List Value) (a : Nat) (st : List Value) (w : zH) (hr : zcat st ≤ 8) : zrun none (64, 103, ls, (.ref a :: st), w) = zgd (zis w a 2) (zcl (zrun none (3, 0, [.ref a], [], w)) (fun r => zrun none (64, 106, ls, r.1.toList ++ st, r.2))) := by
  refine (zE_ (i := .invokespecial 3) (by decide +kernel) _ _ _).trans ?_
  show zres (zinv none 3 64 103 ls (.ref a :: st) w) = _
  unfold zinv
  show zres (if zrc none 3 w (.ref a) = true then zcall 3 [.ref a] st 64 103 ls w else none) = _
  by_cases hc : zis w a 2
  · rw [if_pos (zrc_is hc (by decide +kernel)), zgd_pos hc]
    exact zq_call hr (Nat.le_of_ble_eq_true rfl) rfl rfl
  · rw [zgd_neg hc, if_neg (fun q => hc (zrc_of q (by decide +kernel)))]
    rfl
theorem e64_106 (ls : List Value) (x : Nat) (a : Nat) (st : List Value) (w : zH) : zrun none (64, 106, ls, (.ref x :: .ref a :: st), w) = zgd (a < zX ∧ (zf w a 1115).isSome = true) (zrun none (64, 109, ls, st, zpf w a 1115 (.ref x))) := by
  refine (zE_ (i := .putfield 1115) (by decide +kernel) _ _ _).trans ?_
  by_cases hg : a < zX ∧ (zf w a 1115).isSome = true
  · rw [zgd_pos hg]
    obtain ⟨ha, h⟩ := hg
    exact zq_putf ha h rfl rfl
  · rw [zgd_neg hg]
    exact zq_putf_no (fun h1 h2 h3 => hg ⟨h1, h2⟩)
theorem e64_109 (v1 : Value) (x : Nat) (st : List Value) (w : zH) : zrun none (64, 109, [.ref x, v1], st, w) = zrun none (64, 110, [.ref x, v1], (.ref x :: st), w) := (zE_ (i := .aload_n 0) (by decide +kernel) _ _ _).trans rfl
theorem e64_110 (ls st : List Value) (w : zH) : zrun none (64, 110, ls, st, w) = zrun none (64, 112, ls, (.int 16 :: st), w) := (zE_ (i := .bipush 16) (by decide +kernel) _ _ _).trans rfl
theorem e64_112 (ls : List Value) (n : Int32) (st : List Value) (w : zH) (h0 : ¬ n < 0 ∧ n ≤ 65536) (h : w.length + 1 < zX) : zrun none (64, 112, ls, (.int n :: st), w) = zrun none (64, 114, ls, (.ref w.length :: st), w ++ [(100, List.replicate n.toNatClampNeg (.int 0))]) := by
  refine (zE_ (i := .newarray .int) (by decide +kernel) _ _ _).trans ?_
  simp only [zI]
  unfold znwa
  dsimp only
  rw [if_pos h0]
  unfold znw
  rw [if_pos h]
  rfl
theorem e64_114 (ls : List Value) (x : Nat) (a : Nat) (st : List Value) (w : zH) : zrun none (64, 114, ls, (.ref x :: .ref a :: st), w) = zgd (a < zX ∧ (zf w a 1117).isSome = true) (zrun none (64, 117, ls, st, zpf w a 1117 (.ref x))) := by
  refine (zE_ (i := .putfield 1117) (by decide +kernel) _ _ _).trans ?_
  by_cases hg : a < zX ∧ (zf w a 1117).isSome = true
  · rw [zgd_pos hg]
    obtain ⟨ha, h⟩ := hg
    exact zq_putf ha h rfl rfl
  · rw [zgd_neg hg]
    exact zq_putf_no (fun h1 h2 h3 => hg ⟨h1, h2⟩)
theorem e64_117 (ls st : List Value) (w : zH) : zrun none (64, 117, ls, st, w) = zrun none (64, 118, ls, (.int 0 :: st), w) := (zE_ (i := .iconst 0) (by decide +kernel) _ _ _).trans rfl
theorem e64_118 (v0 v1 : Value) (x : Int32) (st : List Value) (w : zH) (h : v0.category = 1) : zrun none (64, 118, [v0, v1], (.int x :: st), w) = zrun none (64, 119, [v0, .int x], st, w) := by
  refine (zE_ (i := .istore_n 1) (by decide +kernel) _ _ _).trans ?_
  have hz : zfree [v0, v1] 1 = true := by show decide (v0.category = 1) = true; exact decide_eq_true h
  show zres (zst zint 1 1 64 118 [v0, v1] (.int x :: st) w) = _
  unfold zst
  dsimp only
  rw [if_pos ⟨rfl, Nat.le_of_ble_eq_true rfl, hz⟩]
  rfl
theorem e64_119 (v0 : Value) (x : Int32) (st : List Value) (w : zH) : zrun none (64, 119, [v0, .int x], st, w) = zrun none (64, 120, [v0, .int x], (.int x :: st), w) := (zE_ (i := .iload_n 1) (by decide +kernel) _ _ _).trans rfl
theorem e64_120 (ls st : List Value) (w : zH) : zrun none (64, 120, ls, st, w) = zrun none (64, 122, ls, (.int 8 :: st), w) := (zE_ (i := .bipush 8) (by decide +kernel) _ _ _).trans rfl
theorem e64_122 (ls : List Value) (a b : Int32) (st : List Value) (w : zH) : zrun none (64, 122, ls, (.int b :: .int a :: st), w) = if b ≤ a then zrun none (64, 144, ls, st, w) else zrun none (64, 125, ls, st, w) := (zE_ (i := .if_icmp .ge 22) (by decide +kernel) _ _ _).trans (zq_ic_ge rfl rfl)
theorem e64_125 (v1 : Value) (x : Nat) (st : List Value) (w : zH) : zrun none (64, 125, [.ref x, v1], st, w) = zrun none (64, 126, [.ref x, v1], (.ref x :: st), w) := (zE_ (i := .aload_n 0) (by decide +kernel) _ _ _).trans rfl
theorem e64_126 (ls : List Value) (a : Nat) (st : List Value) (w : zH) : zrun none (64, 126, ls, (.ref a :: st), w) = zo (zf w a 1100) (fun x => zrun none (64, 129, ls, (x :: st), w)) := (zE_ (i := .getfield 1100) (by decide +kernel) _ _ _).trans zq_getf
theorem e64_129 (v0 : Value) (x : Int32) (st : List Value) (w : zH) : zrun none (64, 129, [v0, .int x], st, w) = zrun none (64, 130, [v0, .int x], (.int x :: st), w) := (zE_ (i := .iload_n 1) (by decide +kernel) _ _ _).trans rfl
theorem e64_130 (ls st : List Value) (w : zH) : zrun none (64, 130, ls, st, w) = zgd (w.length + 1 < zX) (zrun none (64, 133, ls, (.ref w.length :: st), w ++ [(8, [.null, .int 0, .int 0, .int 0])])) := by
  refine (zE_ (i := .new 8) (by decide +kernel) _ _ _).trans ?_
  simp only [zI]
  rw [if_pos (by decide)]
  unfold znw
  by_cases h : w.length + 1 < zX
  · rw [if_pos h, zgd_pos h]
    rfl
  · rw [if_neg h, zgd_neg h]
    rfl
theorem e64_133 (ls : List Value) (x : Int32) (st : List Value) (w : zH) : zrun none (64, 133, ls, (.int x :: st), w) = zrun none (64, 134, ls, (.int x :: .int x :: st), w) := (zE_ (i := .dup) (by decide +kernel) _ _ _).trans rfl
theorem e64_133r (ls : List Value) (x : Nat) (st : List Value) (w : zH) : zrun none (64, 133, ls, (.ref x :: st), w) = zrun none (64, 134, ls, (.ref x :: .ref x :: st), w) := (zE_ (i := .dup) (by decide +kernel) _ _ _).trans rfl
theorem e64_134 (ls : List Value) (a : Nat) (st : List Value) (w : zH) (hr : zcat st ≤ 8) : zrun none (64, 134, ls, (.ref a :: st), w) = zgd (zis w a 8) (zcl (zrun none (34, 0, [.ref a], [], w)) (fun r => zrun none (64, 137, ls, r.1.toList ++ st, r.2))) := by
  refine (zE_ (i := .invokespecial 34) (by decide +kernel) _ _ _).trans ?_
  show zres (zinv none 34 64 134 ls (.ref a :: st) w) = _
  unfold zinv
  show zres (if zrc none 34 w (.ref a) = true then zcall 34 [.ref a] st 64 134 ls w else none) = _
  by_cases hc : zis w a 8
  · rw [if_pos (zrc_is hc (by decide +kernel)), zgd_pos hc]
    exact zq_call hr (Nat.le_of_ble_eq_true rfl) rfl rfl
  · rw [zgd_neg hc, if_neg (fun q => hc (zrc_of q (by decide +kernel)))]
    rfl
theorem e64_137 (ls : List Value) (v : Value) (j : Int32) (a : Nat) (st : List Value) (w : zH) : zrun none (64, 137, ls, (v :: .int j :: .ref a :: st), w) = zgd (zaq w a j v) (zrun none (64, 138, ls, st, zas w a j v)) := by
  refine (zE_ (i := .aastore) (by decide +kernel) _ _ _).trans ?_
  by_cases hg : zaq w a j v
  · rw [zgd_pos hg]
    obtain ⟨k, h1, h2⟩ := hg
    exact zq_aast h1 h2
  · rw [zgd_neg hg]
    exact zq_aast_no hg
theorem e64_138 (v0 : Value) (x : Int32) (st : List Value) (w : zH) : zrun none (64, 138, [v0, .int x], st, w) = zrun none (64, 141, [v0, .int (x + 1)], st, w) := (zE_ (i := .iinc 1 1) (by decide +kernel) _ _ _).trans rfl
theorem e64_141 (ls st : List Value) (w : zH) : zrun none (64, 141, ls, st, w) = zrun none (64, 119, ls, st, w) := (zE_ (i := .goto (-22)) (by decide +kernel) _ _ _).trans rfl
theorem e64_144 (ls : List Value) (w : zH) : zrun none (64, 144, ls, [], w) = some (none, w) := (zE_ (i := .return_) (by decide +kernel) _ _ _).trans rfl
theorem e65_0 (v1 v2 v3 v4 : Value) (x : Nat) (st : List Value) (w : zH) : zrun none (65, 0, [.ref x, v1, v2, v3, v4], st, w) = zrun none (65, 1, [.ref x, v1, v2, v3, v4], (.ref x :: st), w) := (zE_ (i := .aload_n 0) (by decide +kernel) _ _ _).trans rfl
theorem e65_1 (v0 v2 v3 v4 : Value) (x : Int32) (st : List Value) (w : zH) : zrun none (65, 1, [v0, .int x, v2, v3, v4], st, w) = zrun none (65, 2, [v0, .int x, v2, v3, v4], (.int x :: st), w) := (zE_ (i := .iload_n 1) (by decide +kernel) _ _ _).trans rfl
theorem e65_2 (ls : List Value) (a : Nat) (x0 : Int32) (st : List Value) (w : zH) (hr : zcat st ≤ 8) : zrun none (65, 2, ls, (.int x0 :: .ref a :: st), w) = zgd (zis w a 11) (zcl (zrun none (110, 0, [.ref a, .int x0], [], w)) (fun r => zrun none (65, 5, ls, r.1.toList ++ st, r.2))) := by
  refine (zE_ (i := .invokevirtual 110) (by decide +kernel) _ _ _).trans ?_
  show zres (zinv none 110 65 2 ls (.int x0 :: .ref a :: st) w) = _
  unfold zinv
  show zres (if zrc none 110 w (.ref a) = true then zcall 110 [.ref a, .int x0] st 65 2 ls w else none) = _
  by_cases hc : zis w a 11
  · rw [if_pos (zrc_is hc (by decide +kernel)), zgd_pos hc]
    exact zq_call hr (Nat.le_of_ble_eq_true rfl) rfl rfl
  · rw [zgd_neg hc, if_neg (fun q => hc (zrc_of q (by decide +kernel)))]
    rfl
theorem e65_5 (v0 v1 v2 v3 v4 : Value) (x : Nat) (st : List Value) (w : zH) (h : v3.category = 1) : zrun none (65, 5, [v0, v1, v2, v3, v4], (.ref x :: st), w) = zrun none (65, 7, [v0, v1, v2, v3, .ref x], st, w) := by
  refine (zE_ (i := .astore 4) (by decide +kernel) _ _ _).trans ?_
  have hz : zfree [v0, v1, v2, v3, v4] 4 = true := by show decide (v3.category = 1) = true; exact decide_eq_true h
  show zres (zst zref 4 2 65 5 [v0, v1, v2, v3, v4] (.ref x :: st) w) = _
  unfold zst
  dsimp only
  rw [if_pos ⟨rfl, Nat.le_of_ble_eq_true rfl, hz⟩]
  rfl
theorem e65_5n (v0 v1 v2 v3 v4 : Value) (st : List Value) (w : zH) (h : v3.category = 1) : zrun none (65, 5, [v0, v1, v2, v3, v4], (.null :: st), w) = zrun none (65, 7, [v0, v1, v2, v3, .null], st, w) := by
  refine (zE_ (i := .astore 4) (by decide +kernel) _ _ _).trans ?_
  have hz : zfree [v0, v1, v2, v3, v4] 4 = true := by show decide (v3.category = 1) = true; exact decide_eq_true h
  show zres (zst zref 4 2 65 5 [v0, v1, v2, v3, v4] (.null :: st) w) = _
  unfold zst
  dsimp only
  rw [if_pos ⟨rfl, Nat.le_of_ble_eq_true rfl, hz⟩]
  rfl
theorem e65_7 (v0 v1 v2 v3 : Value) (x : Nat) (st : List Value) (w : zH) : zrun none (65, 7, [v0, v1, v2, v3, .ref x], st, w) = zrun none (65, 9, [v0, v1, v2, v3, .ref x], (.ref x :: st), w) := (zE_ (i := .aload 4) (by decide +kernel) _ _ _).trans rfl
theorem e65_7n (v0 v1 v2 v3 : Value) (st : List Value) (w : zH) : zrun none (65, 7, [v0, v1, v2, v3, .null], st, w) = zrun none (65, 9, [v0, v1, v2, v3, .null], (.null :: st), w) := (zE_ (i := .aload 4) (by decide +kernel) _ _ _).trans rfl
theorem e65_9n (ls st : List Value) (w : zH) : zrun none (65, 9, ls, (.null :: st), w) = zrun none (65, 27, ls, st, w) := (zE_ (i := .ifnull 18) (by decide +kernel) _ _ _).trans rfl
theorem e65_9 (ls : List Value) (a : Nat) (st : List Value) (w : zH) (h : a < zX) : zrun none (65, 9, ls, (.ref a :: st), w) = zrun none (65, 12, ls, st, w) := by
  refine (zE_ (i := .ifnull 18) (by decide +kernel) _ _ _).trans ?_
  simp only [zI, if_pos h]
  rfl
theorem e65_12 (v0 v1 v3 v4 : Value) (x : Int32) (st : List Value) (w : zH) : zrun none (65, 12, [v0, v1, .int x, v3, v4], st, w) = zrun none (65, 13, [v0, v1, .int x, v3, v4], (.int x :: st), w) := (zE_ (i := .iload_n 2) (by decide +kernel) _ _ _).trans rfl
theorem e65_13 (ls st : List Value) (w : zH) : zrun none (65, 13, ls, st, w) = zrun none (65, 14, ls, (.int 0 :: st), w) := (zE_ (i := .iconst 0) (by decide +kernel) _ _ _).trans rfl
theorem e65_14 (ls st : List Value) (w : zH) : zrun none (65, 14, ls, st, w) = zrun none (65, 15, ls, (.int 2 :: st), w) := (zE_ (i := .iconst 2) (by decide +kernel) _ _ _).trans rfl
theorem e65_15 (ls : List Value) (x0 : Int32) (x1 : Int32) (x2 : Int32) (st : List Value) (w : zH) (hr : zcat st ≤ 8) : zrun none (65, 15, ls, (.int x2 :: .int x1 :: .int x0 :: st), w) = zcl (zrun none (100, 0, [.int x0, .int x1, .int x2], [], w)) (fun r => zrun none (65, 18, ls, r.1.toList ++ st, r.2)) := by
  refine (zE_ (i := .invokestatic 100) (by decide +kernel) _ _ _).trans ?_
  show zres (if (99 : Nat) = 99 ∧ 3 ≤ ((.int x2 :: .int x1 :: .int x0 :: st) : List Value).length then zcall 100 [.int x0, .int x1, .int x2] st 65 15 ls w else none) = _
  rw [if_pos ⟨rfl, by simp⟩]
  exact zq_call hr (Nat.le_of_ble_eq_true rfl) rfl rfl
theorem e65_18 (ls : List Value) (a : Int32) (st : List Value) (w : zH) : zrun none (65, 18, ls, (.int a :: st), w) = if a = 0 then zrun none (65, 27, ls, st, w) else zrun none (65, 21, ls, st, w) := (zE_ (i := .ifCond .eq 9) (by decide +kernel) _ _ _).trans (zq_if_eq rfl rfl)
theorem e65_21 (v0 v1 v2 v4 : Value) (x : Int32) (st : List Value) (w : zH) : zrun none (65, 21, [v0, v1, v2, .int x, v4], st, w) = zrun none (65, 22, [v0, v1, v2, .int x, v4], (.int x :: st), w) := (zE_ (i := .iload_n 3) (by decide +kernel) _ _ _).trans rfl
theorem e65_22 (ls st : List Value) (w : zH) : zrun none (65, 22, ls, st, w) = zrun none (65, 24, ls, (.int 100 :: st), w) := (zE_ (i := .bipush 100) (by decide +kernel) _ _ _).trans rfl
theorem e65_24 (ls : List Value) (a b : Int32) (st : List Value) (w : zH) : zrun none (65, 24, ls, (.int b :: .int a :: st), w) = if a ≤ b then zrun none (65, 30, ls, st, w) else zrun none (65, 27, ls, st, w) := (zE_ (i := .if_icmp .le 6) (by decide +kernel) _ _ _).trans (zq_ic_le rfl rfl)
theorem e65_27 (ls st : List Value) (w : zH) : zrun none (65, 27, ls, st, w) = zrun none (65, 29, ls, (.int (-1000001) :: st), w) := (zE_ (i := .bipush (-1000001)) (by decide +kernel) _ _ _).trans rfl
theorem e65_29 (ls : List Value) (x : Int32) (w : zH) : zrun none (65, 29, ls, [.int x], w) = some (some (.int x), w) := by
  refine (zE_ (i := .ireturn) (by decide +kernel) _ _ _).trans ?_
  show zres (if narrow .int (.int x) = .int x then _ else none) = _
  rw [if_pos (show narrow .int (.int x) = .int x from rfl)]
  rfl
theorem e65_30 (v0 v1 v2 v4 : Value) (x : Int32) (st : List Value) (w : zH) : zrun none (65, 30, [v0, v1, v2, .int x, v4], st, w) = zrun none (65, 31, [v0, v1, v2, .int x, v4], (.int x :: st), w) := (zE_ (i := .iload_n 3) (by decide +kernel) _ _ _).trans rfl
theorem e65_31 (ls : List Value) (a : Int32) (st : List Value) (w : zH) : zrun none (65, 31, ls, (.int a :: st), w) = if 0 ≤ a then zrun none (65, 40, ls, st, w) else zrun none (65, 34, ls, st, w) := (zE_ (i := .ifCond .ge 9) (by decide +kernel) _ _ _).trans (zq_if_ge rfl rfl)
theorem e65_34 (v1 v2 v3 v4 : Value) (x : Nat) (st : List Value) (w : zH) : zrun none (65, 34, [.ref x, v1, v2, v3, v4], st, w) = zrun none (65, 35, [.ref x, v1, v2, v3, v4], (.ref x :: st), w) := (zE_ (i := .aload_n 0) (by decide +kernel) _ _ _).trans rfl
theorem e65_35 (ls st : List Value) (w : zH) : zrun none (65, 35, ls, st, w) = zrun none (65, 36, ls, (.int 4 :: st), w) := (zE_ (i := .iconst 4) (by decide +kernel) _ _ _).trans rfl
theorem e65_36 (ls : List Value) (a : Nat) (x0 : Int32) (st : List Value) (w : zH) (hr : zcat st ≤ 8) : zrun none (65, 36, ls, (.int x0 :: .ref a :: st), w) = zgd (zis w a 11) (zcl (zrun none (114, 0, [.ref a, .int x0], [], w)) (fun r => zrun none (65, 39, ls, r.1.toList ++ st, r.2))) := by
  refine (zE_ (i := .invokevirtual 114) (by decide +kernel) _ _ _).trans ?_
  show zres (zinv none 114 65 36 ls (.int x0 :: .ref a :: st) w) = _
  unfold zinv
  show zres (if zrc none 114 w (.ref a) = true then zcall 114 [.ref a, .int x0] st 65 36 ls w else none) = _
  by_cases hc : zis w a 11
  · rw [if_pos (zrc_is hc (by decide +kernel)), zgd_pos hc]
    exact zq_call hr (Nat.le_of_ble_eq_true rfl) rfl rfl
  · rw [zgd_neg hc, if_neg (fun q => hc (zrc_of q (by decide +kernel)))]
    rfl
theorem e65_39 (ls : List Value) (x : Int32) (w : zH) : zrun none (65, 39, ls, [.int x], w) = some (some (.int x), w) := by
  refine (zE_ (i := .ireturn) (by decide +kernel) _ _ _).trans ?_
  show zres (if narrow .int (.int x) = .int x then _ else none) = _
  rw [if_pos (show narrow .int (.int x) = .int x from rfl)]
  rfl
theorem e65_40 (v0 v1 v2 v3 : Value) (x : Nat) (st : List Value) (w : zH) : zrun none (65, 40, [v0, v1, v2, v3, .ref x], st, w) = zrun none (65, 42, [v0, v1, v2, v3, .ref x], (.ref x :: st), w) := (zE_ (i := .aload 4) (by decide +kernel) _ _ _).trans rfl
theorem e65_40n (v0 v1 v2 v3 : Value) (st : List Value) (w : zH) : zrun none (65, 40, [v0, v1, v2, v3, .null], st, w) = zrun none (65, 42, [v0, v1, v2, v3, .null], (.null :: st), w) := (zE_ (i := .aload 4) (by decide +kernel) _ _ _).trans rfl
theorem e65_42 (v0 v1 v3 v4 : Value) (x : Int32) (st : List Value) (w : zH) : zrun none (65, 42, [v0, v1, .int x, v3, v4], st, w) = zrun none (65, 43, [v0, v1, .int x, v3, v4], (.int x :: st), w) := (zE_ (i := .iload_n 2) (by decide +kernel) _ _ _).trans rfl
theorem e65_43 (v0 v1 v2 v4 : Value) (x : Int32) (st : List Value) (w : zH) : zrun none (65, 43, [v0, v1, v2, .int x, v4], st, w) = zrun none (65, 44, [v0, v1, v2, .int x, v4], (.int x :: st), w) := (zE_ (i := .iload_n 3) (by decide +kernel) _ _ _).trans rfl
theorem e65_44 (ls : List Value) (a : Nat) (x0 : Int32) (x1 : Int32) (st : List Value) (w : zH) (hr : zcat st ≤ 8) : zrun none (65, 44, ls, (.int x1 :: .int x0 :: .ref a :: st), w) = zgd (zis w a 8) (zcl (zrun none (35, 0, [.ref a, .int x0, .int x1], [], w)) (fun r => zrun none (65, 47, ls, r.1.toList ++ st, r.2))) := by
  refine (zE_ (i := .invokevirtual 35) (by decide +kernel) _ _ _).trans ?_
  show zres (zinv none 35 65 44 ls (.int x1 :: .int x0 :: .ref a :: st) w) = _
  unfold zinv
  show zres (if zrc none 35 w (.ref a) = true then zcall 35 [.ref a, .int x0, .int x1] st 65 44 ls w else none) = _
  by_cases hc : zis w a 8
  · rw [if_pos (zrc_is hc (by decide +kernel)), zgd_pos hc]
    exact zq_call hr (Nat.le_of_ble_eq_true rfl) rfl rfl
  · rw [zgd_neg hc, if_neg (fun q => hc (zrc_of q (by decide +kernel)))]
    rfl
theorem e65_47 (v1 v2 v3 v4 : Value) (x : Nat) (st : List Value) (w : zH) : zrun none (65, 47, [.ref x, v1, v2, v3, v4], st, w) = zrun none (65, 48, [.ref x, v1, v2, v3, v4], (.ref x :: st), w) := (zE_ (i := .aload_n 0) (by decide +kernel) _ _ _).trans rfl
theorem e65_48 (v0 v1 v2 v4 : Value) (x : Int32) (st : List Value) (w : zH) : zrun none (65, 48, [v0, v1, v2, .int x, v4], st, w) = zrun none (65, 49, [v0, v1, v2, .int x, v4], (.int x :: st), w) := (zE_ (i := .iload_n 3) (by decide +kernel) _ _ _).trans rfl
theorem e65_49 (ls : List Value) (a : Nat) (x0 : Int32) (st : List Value) (w : zH) (hr : zcat st ≤ 8) : zrun none (65, 49, ls, (.int x0 :: .ref a :: st), w) = zgd (zis w a 11) (zcl (zrun none (115, 0, [.ref a, .int x0], [], w)) (fun r => zrun none (65, 52, ls, r.1.toList ++ st, r.2))) := by
  refine (zE_ (i := .invokevirtual 115) (by decide +kernel) _ _ _).trans ?_
  show zres (zinv none 115 65 49 ls (.int x0 :: .ref a :: st) w) = _
  unfold zinv
  show zres (if zrc none 115 w (.ref a) = true then zcall 115 [.ref a, .int x0] st 65 49 ls w else none) = _
  by_cases hc : zis w a 11
  · rw [if_pos (zrc_is hc (by decide +kernel)), zgd_pos hc]
    exact zq_call hr (Nat.le_of_ble_eq_true rfl) rfl rfl
  · rw [zgd_neg hc, if_neg (fun q => hc (zrc_of q (by decide +kernel)))]
    rfl
theorem e65_52 (ls : List Value) (x : Int32) (w : zH) : zrun none (65, 52, ls, [.int x], w) = some (some (.int x), w) := by
  refine (zE_ (i := .ireturn) (by decide +kernel) _ _ _).trans ?_
  show zres (if narrow .int (.int x) = .int x then _ else none) = _
  rw [if_pos (show narrow .int (.int x) = .int x from rfl)]
  rfl
theorem e66_0 (v1 v2 v3 v4 : Value) (x : Nat) (st : List Value) (w : zH) : zrun none (66, 0, [.ref x, v1, v2, v3, v4], st, w) = zrun none (66, 1, [.ref x, v1, v2, v3, v4], (.ref x :: st), w) := (zE_ (i := .aload_n 0) (by decide +kernel) _ _ _).trans rfl
theorem e66_1 (v0 v2 v3 v4 : Value) (x : Int32) (st : List Value) (w : zH) : zrun none (66, 1, [v0, .int x, v2, v3, v4], st, w) = zrun none (66, 2, [v0, .int x, v2, v3, v4], (.int x :: st), w) := (zE_ (i := .iload_n 1) (by decide +kernel) _ _ _).trans rfl
theorem e66_2 (ls : List Value) (a : Nat) (x0 : Int32) (st : List Value) (w : zH) (hr : zcat st ≤ 8) : zrun none (66, 2, ls, (.int x0 :: .ref a :: st), w) = zgd (zis w a 11) (zcl (zrun none (110, 0, [.ref a, .int x0], [], w)) (fun r => zrun none (66, 5, ls, r.1.toList ++ st, r.2))) := by
  refine (zE_ (i := .invokevirtual 110) (by decide +kernel) _ _ _).trans ?_
  show zres (zinv none 110 66 2 ls (.int x0 :: .ref a :: st) w) = _
  unfold zinv
  show zres (if zrc none 110 w (.ref a) = true then zcall 110 [.ref a, .int x0] st 66 2 ls w else none) = _
  by_cases hc : zis w a 11
  · rw [if_pos (zrc_is hc (by decide +kernel)), zgd_pos hc]
    exact zq_call hr (Nat.le_of_ble_eq_true rfl) rfl rfl
  · rw [zgd_neg hc, if_neg (fun q => hc (zrc_of q (by decide +kernel)))]
    rfl
theorem e66_5 (v0 v1 v2 v3 v4 : Value) (x : Nat) (st : List Value) (w : zH) (h : v3.category = 1) : zrun none (66, 5, [v0, v1, v2, v3, v4], (.ref x :: st), w) = zrun none (66, 7, [v0, v1, v2, v3, .ref x], st, w) := by
  refine (zE_ (i := .astore 4) (by decide +kernel) _ _ _).trans ?_
  have hz : zfree [v0, v1, v2, v3, v4] 4 = true := by show decide (v3.category = 1) = true; exact decide_eq_true h
  show zres (zst zref 4 2 66 5 [v0, v1, v2, v3, v4] (.ref x :: st) w) = _
  unfold zst
  dsimp only
  rw [if_pos ⟨rfl, Nat.le_of_ble_eq_true rfl, hz⟩]
  rfl
theorem e66_5n (v0 v1 v2 v3 v4 : Value) (st : List Value) (w : zH) (h : v3.category = 1) : zrun none (66, 5, [v0, v1, v2, v3, v4], (.null :: st), w) = zrun none (66, 7, [v0, v1, v2, v3, .null], st, w) := by
  refine (zE_ (i := .astore 4) (by decide +kernel) _ _ _).trans ?_
  have hz : zfree [v0, v1, v2, v3, v4] 4 = true := by show decide (v3.category = 1) = true; exact decide_eq_true h
  show zres (zst zref 4 2 66 5 [v0, v1, v2, v3, v4] (.null :: st) w) = _
  unfold zst
  dsimp only
  rw [if_pos ⟨rfl, Nat.le_of_ble_eq_true rfl, hz⟩]
  rfl
theorem e66_7 (v0 v1 v2 v3 : Value) (x : Nat) (st : List Value) (w : zH) : zrun none (66, 7, [v0, v1, v2, v3, .ref x], st, w) = zrun none (66, 9, [v0, v1, v2, v3, .ref x], (.ref x :: st), w) := (zE_ (i := .aload 4) (by decide +kernel) _ _ _).trans rfl
theorem e66_7n (v0 v1 v2 v3 : Value) (st : List Value) (w : zH) : zrun none (66, 7, [v0, v1, v2, v3, .null], st, w) = zrun none (66, 9, [v0, v1, v2, v3, .null], (.null :: st), w) := (zE_ (i := .aload 4) (by decide +kernel) _ _ _).trans rfl
theorem e66_9n (ls st : List Value) (w : zH) : zrun none (66, 9, ls, (.null :: st), w) = zrun none (66, 12, ls, st, w) := (zE_ (i := .ifnonnull 6) (by decide +kernel) _ _ _).trans rfl
theorem e66_9 (ls : List Value) (a : Nat) (st : List Value) (w : zH) (h : a < zX) : zrun none (66, 9, ls, (.ref a :: st), w) = zrun none (66, 15, ls, st, w) := by
  refine (zE_ (i := .ifnonnull 6) (by decide +kernel) _ _ _).trans ?_
  simp only [zI, if_pos h]
  rfl
theorem e66_12 (ls st : List Value) (w : zH) : zrun none (66, 12, ls, st, w) = zrun none (66, 14, ls, (.int (-1000001) :: st), w) := (zE_ (i := .bipush (-1000001)) (by decide +kernel) _ _ _).trans rfl
theorem e66_14 (ls : List Value) (x : Int32) (w : zH) : zrun none (66, 14, ls, [.int x], w) = some (some (.int x), w) := by
  refine (zE_ (i := .ireturn) (by decide +kernel) _ _ _).trans ?_
  show zres (if narrow .int (.int x) = .int x then _ else none) = _
  rw [if_pos (show narrow .int (.int x) = .int x from rfl)]
  rfl
theorem e66_15 (v0 v1 v2 v3 : Value) (x : Nat) (st : List Value) (w : zH) : zrun none (66, 15, [v0, v1, v2, v3, .ref x], st, w) = zrun none (66, 17, [v0, v1, v2, v3, .ref x], (.ref x :: st), w) := (zE_ (i := .aload 4) (by decide +kernel) _ _ _).trans rfl
theorem e66_15n (v0 v1 v2 v3 : Value) (st : List Value) (w : zH) : zrun none (66, 15, [v0, v1, v2, v3, .null], st, w) = zrun none (66, 17, [v0, v1, v2, v3, .null], (.null :: st), w) := (zE_ (i := .aload 4) (by decide +kernel) _ _ _).trans rfl
theorem e66_17 (ls : List Value) (a : Nat) (st : List Value) (w : zH) : zrun none (66, 17, ls, (.ref a :: st), w) = zo (zf w a 801) (fun x => zrun none (66, 20, ls, (x :: st), w)) := (zE_ (i := .getfield 801) (by decide +kernel) _ _ _).trans zq_getf
theorem e66_20 (ls : List Value) (a : Int32) (st : List Value) (w : zH) : zrun none (66, 20, ls, (.int a :: st), w) = if a = 0 then zrun none (66, 23, ls, st, w) else zrun none (66, 29, ls, st, w) := (zE_ (i := .ifCond .ne 9) (by decide +kernel) _ _ _).trans (zq_if_ne rfl rfl)
theorem e66_23 (v1 v2 v3 v4 : Value) (x : Nat) (st : List Value) (w : zH) : zrun none (66, 23, [.ref x, v1, v2, v3, v4], st, w) = zrun none (66, 24, [.ref x, v1, v2, v3, v4], (.ref x :: st), w) := (zE_ (i := .aload_n 0) (by decide +kernel) _ _ _).trans rfl
theorem e66_24 (ls st : List Value) (w : zH) : zrun none (66, 24, ls, st, w) = zrun none (66, 25, ls, (.int 1 :: st), w) := (zE_ (i := .iconst 1) (by decide +kernel) _ _ _).trans rfl
theorem e66_25 (ls : List Value) (a : Nat) (x0 : Int32) (st : List Value) (w : zH) (hr : zcat st ≤ 8) : zrun none (66, 25, ls, (.int x0 :: .ref a :: st), w) = zgd (zis w a 11) (zcl (zrun none (114, 0, [.ref a, .int x0], [], w)) (fun r => zrun none (66, 28, ls, r.1.toList ++ st, r.2))) := by
  refine (zE_ (i := .invokevirtual 114) (by decide +kernel) _ _ _).trans ?_
  show zres (zinv none 114 66 25 ls (.int x0 :: .ref a :: st) w) = _
  unfold zinv
  show zres (if zrc none 114 w (.ref a) = true then zcall 114 [.ref a, .int x0] st 66 25 ls w else none) = _
  by_cases hc : zis w a 11
  · rw [if_pos (zrc_is hc (by decide +kernel)), zgd_pos hc]
    exact zq_call hr (Nat.le_of_ble_eq_true rfl) rfl rfl
  · rw [zgd_neg hc, if_neg (fun q => hc (zrc_of q (by decide +kernel)))]
    rfl
theorem e66_28 (ls : List Value) (x : Int32) (w : zH) : zrun none (66, 28, ls, [.int x], w) = some (some (.int x), w) := by
  refine (zE_ (i := .ireturn) (by decide +kernel) _ _ _).trans ?_
  show zres (if narrow .int (.int x) = .int x then _ else none) = _
  rw [if_pos (show narrow .int (.int x) = .int x from rfl)]
  rfl
theorem e66_29 (v0 v1 v2 v3 : Value) (x : Nat) (st : List Value) (w : zH) : zrun none (66, 29, [v0, v1, v2, v3, .ref x], st, w) = zrun none (66, 31, [v0, v1, v2, v3, .ref x], (.ref x :: st), w) := (zE_ (i := .aload 4) (by decide +kernel) _ _ _).trans rfl
theorem e66_29n (v0 v1 v2 v3 : Value) (st : List Value) (w : zH) : zrun none (66, 29, [v0, v1, v2, v3, .null], st, w) = zrun none (66, 31, [v0, v1, v2, v3, .null], (.null :: st), w) := (zE_ (i := .aload 4) (by decide +kernel) _ _ _).trans rfl
theorem e66_31 (v0 v1 v3 v4 : Value) (x : Int32) (st : List Value) (w : zH) : zrun none (66, 31, [v0, v1, .int x, v3, v4], st, w) = zrun none (66, 32, [v0, v1, .int x, v3, v4], (.int x :: st), w) := (zE_ (i := .iload_n 2) (by decide +kernel) _ _ _).trans rfl
theorem e66_32 (ls st : List Value) (w : zH) : zrun none (66, 32, ls, st, w) = zrun none (66, 33, ls, (.int 1 :: st), w) := (zE_ (i := .iconst 1) (by decide +kernel) _ _ _).trans rfl
theorem e66_33 (ls : List Value) (a : Nat) (x0 : Int32) (x1 : Int32) (st : List Value) (w : zH) (hr : zcat st ≤ 8) : zrun none (66, 33, ls, (.int x1 :: .int x0 :: .ref a :: st), w) = zgd (zis w a 8) (zcl (zrun none (36, 0, [.ref a, .int x0, .int x1], [], w)) (fun r => zrun none (66, 36, ls, r.1.toList ++ st, r.2))) := by
  refine (zE_ (i := .invokevirtual 36) (by decide +kernel) _ _ _).trans ?_
  show zres (zinv none 36 66 33 ls (.int x1 :: .int x0 :: .ref a :: st) w) = _
  unfold zinv
  show zres (if zrc none 36 w (.ref a) = true then zcall 36 [.ref a, .int x0, .int x1] st 66 33 ls w else none) = _
  by_cases hc : zis w a 8
  · rw [if_pos (zrc_is hc (by decide +kernel)), zgd_pos hc]
    exact zq_call hr (Nat.le_of_ble_eq_true rfl) rfl rfl
  · rw [zgd_neg hc, if_neg (fun q => hc (zrc_of q (by decide +kernel)))]
    rfl
theorem e66_36 (ls : List Value) (a : Int32) (st : List Value) (w : zH) : zrun none (66, 36, ls, (.int a :: st), w) = if a = 0 then zrun none (66, 39, ls, st, w) else zrun none (66, 45, ls, st, w) := (zE_ (i := .ifCond .ne 9) (by decide +kernel) _ _ _).trans (zq_if_ne rfl rfl)
theorem e66_39 (v1 v2 v3 v4 : Value) (x : Nat) (st : List Value) (w : zH) : zrun none (66, 39, [.ref x, v1, v2, v3, v4], st, w) = zrun none (66, 40, [.ref x, v1, v2, v3, v4], (.ref x :: st), w) := (zE_ (i := .aload_n 0) (by decide +kernel) _ _ _).trans rfl
theorem e66_40 (ls st : List Value) (w : zH) : zrun none (66, 40, ls, st, w) = zrun none (66, 41, ls, (.int 2 :: st), w) := (zE_ (i := .iconst 2) (by decide +kernel) _ _ _).trans rfl
theorem e66_41 (ls : List Value) (a : Nat) (x0 : Int32) (st : List Value) (w : zH) (hr : zcat st ≤ 8) : zrun none (66, 41, ls, (.int x0 :: .ref a :: st), w) = zgd (zis w a 11) (zcl (zrun none (114, 0, [.ref a, .int x0], [], w)) (fun r => zrun none (66, 44, ls, r.1.toList ++ st, r.2))) := by
  refine (zE_ (i := .invokevirtual 114) (by decide +kernel) _ _ _).trans ?_
  show zres (zinv none 114 66 41 ls (.int x0 :: .ref a :: st) w) = _
  unfold zinv
  show zres (if zrc none 114 w (.ref a) = true then zcall 114 [.ref a, .int x0] st 66 41 ls w else none) = _
  by_cases hc : zis w a 11
  · rw [if_pos (zrc_is hc (by decide +kernel)), zgd_pos hc]
    exact zq_call hr (Nat.le_of_ble_eq_true rfl) rfl rfl
  · rw [zgd_neg hc, if_neg (fun q => hc (zrc_of q (by decide +kernel)))]
    rfl
theorem e66_44 (ls : List Value) (x : Int32) (w : zH) : zrun none (66, 44, ls, [.int x], w) = some (some (.int x), w) := by
  refine (zE_ (i := .ireturn) (by decide +kernel) _ _ _).trans ?_
  show zres (if narrow .int (.int x) = .int x then _ else none) = _
  rw [if_pos (show narrow .int (.int x) = .int x from rfl)]
  rfl
theorem e66_45 (v1 v2 v3 v4 : Value) (x : Nat) (st : List Value) (w : zH) : zrun none (66, 45, [.ref x, v1, v2, v3, v4], st, w) = zrun none (66, 46, [.ref x, v1, v2, v3, v4], (.ref x :: st), w) := (zE_ (i := .aload_n 0) (by decide +kernel) _ _ _).trans rfl
theorem e66_46 (v0 v1 v2 v3 : Value) (x : Nat) (st : List Value) (w : zH) : zrun none (66, 46, [v0, v1, v2, v3, .ref x], st, w) = zrun none (66, 48, [v0, v1, v2, v3, .ref x], (.ref x :: st), w) := (zE_ (i := .aload 4) (by decide +kernel) _ _ _).trans rfl
theorem e66_46n (v0 v1 v2 v3 : Value) (st : List Value) (w : zH) : zrun none (66, 46, [v0, v1, v2, v3, .null], st, w) = zrun none (66, 48, [v0, v1, v2, v3, .null], (.null :: st), w) := (zE_ (i := .aload 4) (by decide +kernel) _ _ _).trans rfl
theorem e66_48 (v0 v1 v3 v4 : Value) (x : Int32) (st : List Value) (w : zH) : zrun none (66, 48, [v0, v1, .int x, v3, v4], st, w) = zrun none (66, 49, [v0, v1, .int x, v3, v4], (.int x :: st), w) := (zE_ (i := .iload_n 2) (by decide +kernel) _ _ _).trans rfl
theorem e66_49 (v0 v1 v2 v4 : Value) (x : Int32) (st : List Value) (w : zH) : zrun none (66, 49, [v0, v1, v2, .int x, v4], st, w) = zrun none (66, 50, [v0, v1, v2, .int x, v4], (.int x :: st), w) := (zE_ (i := .iload_n 3) (by decide +kernel) _ _ _).trans rfl
theorem e66_50 (ls : List Value) (a : Nat) (x0 : Int32) (x1 : Int32) (st : List Value) (w : zH) (hr : zcat st ≤ 8) : zrun none (66, 50, ls, (.int x1 :: .int x0 :: .ref a :: st), w) = zgd (zis w a 8) (zcl (zrun none (38, 0, [.ref a, .int x0, .int x1], [], w)) (fun r => zrun none (66, 53, ls, r.1.toList ++ st, r.2))) := by
  refine (zE_ (i := .invokevirtual 38) (by decide +kernel) _ _ _).trans ?_
  show zres (zinv none 38 66 50 ls (.int x1 :: .int x0 :: .ref a :: st) w) = _
  unfold zinv
  show zres (if zrc none 38 w (.ref a) = true then zcall 38 [.ref a, .int x0, .int x1] st 66 50 ls w else none) = _
  by_cases hc : zis w a 8
  · rw [if_pos (zrc_is hc (by decide +kernel)), zgd_pos hc]
    exact zq_call hr (Nat.le_of_ble_eq_true rfl) rfl rfl
  · rw [zgd_neg hc, if_neg (fun q => hc (zrc_of q (by decide +kernel)))]
    rfl
theorem e66_53 (ls : List Value) (a : Nat) (x0 : Int32) (st : List Value) (w : zH) (hr : zcat st ≤ 8) : zrun none (66, 53, ls, (.int x0 :: .ref a :: st), w) = zgd (zis w a 11) (zcl (zrun none (115, 0, [.ref a, .int x0], [], w)) (fun r => zrun none (66, 56, ls, r.1.toList ++ st, r.2))) := by
  refine (zE_ (i := .invokevirtual 115) (by decide +kernel) _ _ _).trans ?_
  show zres (zinv none 115 66 53 ls (.int x0 :: .ref a :: st) w) = _
  unfold zinv
  show zres (if zrc none 115 w (.ref a) = true then zcall 115 [.ref a, .int x0] st 66 53 ls w else none) = _
  by_cases hc : zis w a 11
  · rw [if_pos (zrc_is hc (by decide +kernel)), zgd_pos hc]
    exact zq_call hr (Nat.le_of_ble_eq_true rfl) rfl rfl
  · rw [zgd_neg hc, if_neg (fun q => hc (zrc_of q (by decide +kernel)))]
    rfl
theorem e66_56 (ls : List Value) (x : Int32) (w : zH) : zrun none (66, 56, ls, [.int x], w) = some (some (.int x), w) := by
  refine (zE_ (i := .ireturn) (by decide +kernel) _ _ _).trans ?_
  show zres (if narrow .int (.int x) = .int x then _ else none) = _
  rw [if_pos (show narrow .int (.int x) = .int x from rfl)]
  rfl
theorem e67_0 (v1 v2 v3 v4 v5 v6 v7 : Value) (x : Nat) (st : List Value) (w : zH) : zrun none (67, 0, [.ref x, v1, v2, v3, v4, v5, v6, v7], st, w) = zrun none (67, 1, [.ref x, v1, v2, v3, v4, v5, v6, v7], (.ref x :: st), w) := (zE_ (i := .aload_n 0) (by decide +kernel) _ _ _).trans rfl
theorem e67_1 (v0 v2 v3 v4 v5 v6 v7 : Value) (x : Int32) (st : List Value) (w : zH) : zrun none (67, 1, [v0, .int x, v2, v3, v4, v5, v6, v7], st, w) = zrun none (67, 2, [v0, .int x, v2, v3, v4, v5, v6, v7], (.int x :: st), w) := (zE_ (i := .iload_n 1) (by decide +kernel) _ _ _).trans rfl
theorem e67_2 (ls : List Value) (a : Nat) (x0 : Int32) (st : List Value) (w : zH) (hr : zcat st ≤ 8) : zrun none (67, 2, ls, (.int x0 :: .ref a :: st), w) = zgd (zis w a 11) (zcl (zrun none (110, 0, [.ref a, .int x0], [], w)) (fun r => zrun none (67, 5, ls, r.1.toList ++ st, r.2))) := by
  refine (zE_ (i := .invokevirtual 110) (by decide +kernel) _ _ _).trans ?_
  show zres (zinv none 110 67 2 ls (.int x0 :: .ref a :: st) w) = _
  unfold zinv
  show zres (if zrc none 110 w (.ref a) = true then zcall 110 [.ref a, .int x0] st 67 2 ls w else none) = _
  by_cases hc : zis w a 11
  · rw [if_pos (zrc_is hc (by decide +kernel)), zgd_pos hc]
    exact zq_call hr (Nat.le_of_ble_eq_true rfl) rfl rfl
  · rw [zgd_neg hc, if_neg (fun q => hc (zrc_of q (by decide +kernel)))]
    rfl
theorem e67_5 (v0 v1 v2 v3 v4 v5 v6 v7 : Value) (x : Nat) (st : List Value) (w : zH) (h : v5.category = 1) : zrun none (67, 5, [v0, v1, v2, v3, v4, v5, v6, v7], (.ref x :: st), w) = zrun none (67, 7, [v0, v1, v2, v3, v4, v5, .ref x, v7], st, w) := by
  refine (zE_ (i := .astore 6) (by decide +kernel) _ _ _).trans ?_
  have hz : zfree [v0, v1, v2, v3, v4, v5, v6, v7] 6 = true := by show decide (v5.category = 1) = true; exact decide_eq_true h
  show zres (zst zref 6 2 67 5 [v0, v1, v2, v3, v4, v5, v6, v7] (.ref x :: st) w) = _
  unfold zst
  dsimp only
  rw [if_pos ⟨rfl, Nat.le_of_ble_eq_true rfl, hz⟩]
  rfl
theorem e67_5n (v0 v1 v2 v3 v4 v5 v6 v7 : Value) (st : List Value) (w : zH) (h : v5.category = 1) : zrun none (67, 5, [v0, v1, v2, v3, v4, v5, v6, v7], (.null :: st), w) = zrun none (67, 7, [v0, v1, v2, v3, v4, v5, .null, v7], st, w) := by
  refine (zE_ (i := .astore 6) (by decide +kernel) _ _ _).trans ?_
  have hz : zfree [v0, v1, v2, v3, v4, v5, v6, v7] 6 = true := by show decide (v5.category = 1) = true; exact decide_eq_true h
  show zres (zst zref 6 2 67 5 [v0, v1, v2, v3, v4, v5, v6, v7] (.null :: st) w) = _
  unfold zst
  dsimp only
  rw [if_pos ⟨rfl, Nat.le_of_ble_eq_true rfl, hz⟩]
  rfl
theorem e67_7 (v1 v2 v3 v4 v5 v6 v7 : Value) (x : Nat) (st : List Value) (w : zH) : zrun none (67, 7, [.ref x, v1, v2, v3, v4, v5, v6, v7], st, w) = zrun none (67, 8, [.ref x, v1, v2, v3, v4, v5, v6, v7], (.ref x :: st), w) := (zE_ (i := .aload_n 0) (by decide +kernel) _ _ _).trans rfl
theorem e67_8 (v0 v1 v2 v4 v5 v6 v7 : Value) (x : Int32) (st : List Value) (w : zH) : zrun none (67, 8, [v0, v1, v2, .int x, v4, v5, v6, v7], st, w) = zrun none (67, 9, [v0, v1, v2, .int x, v4, v5, v6, v7], (.int x :: st), w) := (zE_ (i := .iload_n 3) (by decide +kernel) _ _ _).trans rfl
theorem e67_9 (ls : List Value) (a : Nat) (x0 : Int32) (st : List Value) (w : zH) (hr : zcat st ≤ 8) : zrun none (67, 9, ls, (.int x0 :: .ref a :: st), w) = zgd (zis w a 11) (zcl (zrun none (110, 0, [.ref a, .int x0], [], w)) (fun r => zrun none (67, 12, ls, r.1.toList ++ st, r.2))) := by
  refine (zE_ (i := .invokevirtual 110) (by decide +kernel) _ _ _).trans ?_
  show zres (zinv none 110 67 9 ls (.int x0 :: .ref a :: st) w) = _
  unfold zinv
  show zres (if zrc none 110 w (.ref a) = true then zcall 110 [.ref a, .int x0] st 67 9 ls w else none) = _
  by_cases hc : zis w a 11
  · rw [if_pos (zrc_is hc (by decide +kernel)), zgd_pos hc]
    exact zq_call hr (Nat.le_of_ble_eq_true rfl) rfl rfl
  · rw [zgd_neg hc, if_neg (fun q => hc (zrc_of q (by decide +kernel)))]
    rfl
theorem e67_12 (v0 v1 v2 v3 v4 v5 v6 v7 : Value) (x : Nat) (st : List Value) (w : zH) (h : v6.category = 1) : zrun none (67, 12, [v0, v1, v2, v3, v4, v5, v6, v7], (.ref x :: st), w) = zrun none (67, 14, [v0, v1, v2, v3, v4, v5, v6, .ref x], st, w) := by
  refine (zE_ (i := .astore 7) (by decide +kernel) _ _ _).trans ?_
  have hz : zfree [v0, v1, v2, v3, v4, v5, v6, v7] 7 = true := by show decide (v6.category = 1) = true; exact decide_eq_true h
  show zres (zst zref 7 2 67 12 [v0, v1, v2, v3, v4, v5, v6, v7] (.ref x :: st) w) = _
  unfold zst
  dsimp only
  rw [if_pos ⟨rfl, Nat.le_of_ble_eq_true rfl, hz⟩]
  rfl
theorem e67_12n (v0 v1 v2 v3 v4 v5 v6 v7 : Value) (st : List Value) (w : zH) (h : v6.category = 1) : zrun none (67, 12, [v0, v1, v2, v3, v4, v5, v6, v7], (.null :: st), w) = zrun none (67, 14, [v0, v1, v2, v3, v4, v5, v6, .null], st, w) := by
  refine (zE_ (i := .astore 7) (by decide +kernel) _ _ _).trans ?_
  have hz : zfree [v0, v1, v2, v3, v4, v5, v6, v7] 7 = true := by show decide (v6.category = 1) = true; exact decide_eq_true h
  show zres (zst zref 7 2 67 12 [v0, v1, v2, v3, v4, v5, v6, v7] (.null :: st) w) = _
  unfold zst
  dsimp only
  rw [if_pos ⟨rfl, Nat.le_of_ble_eq_true rfl, hz⟩]
  rfl
theorem e67_14 (v0 v1 v2 v3 v4 v5 v7 : Value) (x : Nat) (st : List Value) (w : zH) : zrun none (67, 14, [v0, v1, v2, v3, v4, v5, .ref x, v7], st, w) = zrun none (67, 16, [v0, v1, v2, v3, v4, v5, .ref x, v7], (.ref x :: st), w) := (zE_ (i := .aload 6) (by decide +kernel) _ _ _).trans rfl
theorem e67_14n (v0 v1 v2 v3 v4 v5 v7 : Value) (st : List Value) (w : zH) : zrun none (67, 14, [v0, v1, v2, v3, v4, v5, .null, v7], st, w) = zrun none (67, 16, [v0, v1, v2, v3, v4, v5, .null, v7], (.null :: st), w) := (zE_ (i := .aload 6) (by decide +kernel) _ _ _).trans rfl
theorem e67_16n (ls st : List Value) (w : zH) : zrun none (67, 16, ls, (.null :: st), w) = zrun none (67, 24, ls, st, w) := (zE_ (i := .ifnull 8) (by decide +kernel) _ _ _).trans rfl
theorem e67_16 (ls : List Value) (a : Nat) (st : List Value) (w : zH) (h : a < zX) : zrun none (67, 16, ls, (.ref a :: st), w) = zrun none (67, 19, ls, st, w) := by
  refine (zE_ (i := .ifnull 8) (by decide +kernel) _ _ _).trans ?_
  simp only [zI, if_pos h]
  rfl
theorem e67_19 (v0 v1 v2 v3 v4 v5 v6 : Value) (x : Nat) (st : List Value) (w : zH) : zrun none (67, 19, [v0, v1, v2, v3, v4, v5, v6, .ref x], st, w) = zrun none (67, 21, [v0, v1, v2, v3, v4, v5, v6, .ref x], (.ref x :: st), w) := (zE_ (i := .aload 7) (by decide +kernel) _ _ _).trans rfl
theorem e67_19n (v0 v1 v2 v3 v4 v5 v6 : Value) (st : List Value) (w : zH) : zrun none (67, 19, [v0, v1, v2, v3, v4, v5, v6, .null], st, w) = zrun none (67, 21, [v0, v1, v2, v3, v4, v5, v6, .null], (.null :: st), w) := (zE_ (i := .aload 7) (by decide +kernel) _ _ _).trans rfl
theorem e67_21n (ls st : List Value) (w : zH) : zrun none (67, 21, ls, (.null :: st), w) = zrun none (67, 24, ls, st, w) := (zE_ (i := .ifnonnull 6) (by decide +kernel) _ _ _).trans rfl
theorem e67_21 (ls : List Value) (a : Nat) (st : List Value) (w : zH) (h : a < zX) : zrun none (67, 21, ls, (.ref a :: st), w) = zrun none (67, 27, ls, st, w) := by
  refine (zE_ (i := .ifnonnull 6) (by decide +kernel) _ _ _).trans ?_
  simp only [zI, if_pos h]
  rfl
theorem e67_24 (ls st : List Value) (w : zH) : zrun none (67, 24, ls, st, w) = zrun none (67, 26, ls, (.int (-1000001) :: st), w) := (zE_ (i := .bipush (-1000001)) (by decide +kernel) _ _ _).trans rfl
theorem e67_26 (ls : List Value) (x : Int32) (w : zH) : zrun none (67, 26, ls, [.int x], w) = some (some (.int x), w) := by
  refine (zE_ (i := .ireturn) (by decide +kernel) _ _ _).trans ?_
  show zres (if narrow .int (.int x) = .int x then _ else none) = _
  rw [if_pos (show narrow .int (.int x) = .int x from rfl)]
  rfl
theorem e67_27 (v0 v1 v2 v3 v4 v5 v7 : Value) (x : Nat) (st : List Value) (w : zH) : zrun none (67, 27, [v0, v1, v2, v3, v4, v5, .ref x, v7], st, w) = zrun none (67, 29, [v0, v1, v2, v3, v4, v5, .ref x, v7], (.ref x :: st), w) := (zE_ (i := .aload 6) (by decide +kernel) _ _ _).trans rfl
theorem e67_27n (v0 v1 v2 v3 v4 v5 v7 : Value) (st : List Value) (w : zH) : zrun none (67, 27, [v0, v1, v2, v3, v4, v5, .null, v7], st, w) = zrun none (67, 29, [v0, v1, v2, v3, v4, v5, .null, v7], (.null :: st), w) := (zE_ (i := .aload 6) (by decide +kernel) _ _ _).trans rfl
theorem e67_29 (ls : List Value) (a : Nat) (st : List Value) (w : zH) : zrun none (67, 29, ls, (.ref a :: st), w) = zo (zf w a 801) (fun x => zrun none (67, 32, ls, (x :: st), w)) := (zE_ (i := .getfield 801) (by decide +kernel) _ _ _).trans zq_getf
theorem e67_32 (ls : List Value) (a : Int32) (st : List Value) (w : zH) : zrun none (67, 32, ls, (.int a :: st), w) = if a = 0 then zrun none (67, 43, ls, st, w) else zrun none (67, 35, ls, st, w) := (zE_ (i := .ifCond .eq 11) (by decide +kernel) _ _ _).trans (zq_if_eq rfl rfl)
theorem e67_35 (v0 v1 v2 v3 v4 v5 v6 : Value) (x : Nat) (st : List Value) (w : zH) : zrun none (67, 35, [v0, v1, v2, v3, v4, v5, v6, .ref x], st, w) = zrun none (67, 37, [v0, v1, v2, v3, v4, v5, v6, .ref x], (.ref x :: st), w) := (zE_ (i := .aload 7) (by decide +kernel) _ _ _).trans rfl
theorem e67_35n (v0 v1 v2 v3 v4 v5 v6 : Value) (st : List Value) (w : zH) : zrun none (67, 35, [v0, v1, v2, v3, v4, v5, v6, .null], st, w) = zrun none (67, 37, [v0, v1, v2, v3, v4, v5, v6, .null], (.null :: st), w) := (zE_ (i := .aload 7) (by decide +kernel) _ _ _).trans rfl
theorem e67_37 (ls : List Value) (a : Nat) (st : List Value) (w : zH) : zrun none (67, 37, ls, (.ref a :: st), w) = zo (zf w a 801) (fun x => zrun none (67, 40, ls, (x :: st), w)) := (zE_ (i := .getfield 801) (by decide +kernel) _ _ _).trans zq_getf
theorem e67_40 (ls : List Value) (a : Int32) (st : List Value) (w : zH) : zrun none (67, 40, ls, (.int a :: st), w) = if a = 0 then zrun none (67, 43, ls, st, w) else zrun none (67, 49, ls, st, w) := (zE_ (i := .ifCond .ne 9) (by decide +kernel) _ _ _).trans (zq_if_ne rfl rfl)
theorem e67_43 (v1 v2 v3 v4 v5 v6 v7 : Value) (x : Nat) (st : List Value) (w : zH) : zrun none (67, 43, [.ref x, v1, v2, v3, v4, v5, v6, v7], st, w) = zrun none (67, 44, [.ref x, v1, v2, v3, v4, v5, v6, v7], (.ref x :: st), w) := (zE_ (i := .aload_n 0) (by decide +kernel) _ _ _).trans rfl
theorem e67_44 (ls st : List Value) (w : zH) : zrun none (67, 44, ls, st, w) = zrun none (67, 45, ls, (.int 1 :: st), w) := (zE_ (i := .iconst 1) (by decide +kernel) _ _ _).trans rfl
theorem e67_45 (ls : List Value) (a : Nat) (x0 : Int32) (st : List Value) (w : zH) (hr : zcat st ≤ 8) : zrun none (67, 45, ls, (.int x0 :: .ref a :: st), w) = zgd (zis w a 11) (zcl (zrun none (114, 0, [.ref a, .int x0], [], w)) (fun r => zrun none (67, 48, ls, r.1.toList ++ st, r.2))) := by
  refine (zE_ (i := .invokevirtual 114) (by decide +kernel) _ _ _).trans ?_
  show zres (zinv none 114 67 45 ls (.int x0 :: .ref a :: st) w) = _
  unfold zinv
  show zres (if zrc none 114 w (.ref a) = true then zcall 114 [.ref a, .int x0] st 67 45 ls w else none) = _
  by_cases hc : zis w a 11
  · rw [if_pos (zrc_is hc (by decide +kernel)), zgd_pos hc]
    exact zq_call hr (Nat.le_of_ble_eq_true rfl) rfl rfl
  · rw [zgd_neg hc, if_neg (fun q => hc (zrc_of q (by decide +kernel)))]
    rfl
theorem e67_48 (ls : List Value) (x : Int32) (w : zH) : zrun none (67, 48, ls, [.int x], w) = some (some (.int x), w) := by
  refine (zE_ (i := .ireturn) (by decide +kernel) _ _ _).trans ?_
  show zres (if narrow .int (.int x) = .int x then _ else none) = _
  rw [if_pos (show narrow .int (.int x) = .int x from rfl)]
  rfl
theorem e67_49 (v0 v1 v2 v3 v4 v5 v7 : Value) (x : Nat) (st : List Value) (w : zH) : zrun none (67, 49, [v0, v1, v2, v3, v4, v5, .ref x, v7], st, w) = zrun none (67, 51, [v0, v1, v2, v3, v4, v5, .ref x, v7], (.ref x :: st), w) := (zE_ (i := .aload 6) (by decide +kernel) _ _ _).trans rfl
theorem e67_49n (v0 v1 v2 v3 v4 v5 v7 : Value) (st : List Value) (w : zH) : zrun none (67, 49, [v0, v1, v2, v3, v4, v5, .null, v7], st, w) = zrun none (67, 51, [v0, v1, v2, v3, v4, v5, .null, v7], (.null :: st), w) := (zE_ (i := .aload 6) (by decide +kernel) _ _ _).trans rfl
theorem e67_51 (ls : List Value) (a : Nat) (st : List Value) (w : zH) : zrun none (67, 51, ls, (.ref a :: st), w) = zo (zf w a 802) (fun x => zrun none (67, 54, ls, (x :: st), w)) := (zE_ (i := .getfield 802) (by decide +kernel) _ _ _).trans zq_getf
theorem e67_54 (v0 v1 v2 v3 v4 v5 v6 : Value) (x : Nat) (st : List Value) (w : zH) : zrun none (67, 54, [v0, v1, v2, v3, v4, v5, v6, .ref x], st, w) = zrun none (67, 56, [v0, v1, v2, v3, v4, v5, v6, .ref x], (.ref x :: st), w) := (zE_ (i := .aload 7) (by decide +kernel) _ _ _).trans rfl
theorem e67_54n (v0 v1 v2 v3 v4 v5 v6 : Value) (st : List Value) (w : zH) : zrun none (67, 54, [v0, v1, v2, v3, v4, v5, v6, .null], st, w) = zrun none (67, 56, [v0, v1, v2, v3, v4, v5, v6, .null], (.null :: st), w) := (zE_ (i := .aload 7) (by decide +kernel) _ _ _).trans rfl
theorem e67_56 (ls : List Value) (a : Nat) (st : List Value) (w : zH) : zrun none (67, 56, ls, (.ref a :: st), w) = zo (zf w a 802) (fun x => zrun none (67, 59, ls, (x :: st), w)) := (zE_ (i := .getfield 802) (by decide +kernel) _ _ _).trans zq_getf
theorem e67_59 (ls : List Value) (a b : Int32) (st : List Value) (w : zH) : zrun none (67, 59, ls, (.int b :: .int a :: st), w) = if a = b then zrun none (67, 68, ls, st, w) else zrun none (67, 62, ls, st, w) := (zE_ (i := .if_icmp .eq 9) (by decide +kernel) _ _ _).trans (zq_ic_eq rfl rfl)
theorem e67_62 (v1 v2 v3 v4 v5 v6 v7 : Value) (x : Nat) (st : List Value) (w : zH) : zrun none (67, 62, [.ref x, v1, v2, v3, v4, v5, v6, v7], st, w) = zrun none (67, 63, [.ref x, v1, v2, v3, v4, v5, v6, v7], (.ref x :: st), w) := (zE_ (i := .aload_n 0) (by decide +kernel) _ _ _).trans rfl
theorem e67_63 (ls st : List Value) (w : zH) : zrun none (67, 63, ls, st, w) = zrun none (67, 64, ls, (.int 5 :: st), w) := (zE_ (i := .iconst 5) (by decide +kernel) _ _ _).trans rfl
theorem e67_64 (ls : List Value) (a : Nat) (x0 : Int32) (st : List Value) (w : zH) (hr : zcat st ≤ 8) : zrun none (67, 64, ls, (.int x0 :: .ref a :: st), w) = zgd (zis w a 11) (zcl (zrun none (114, 0, [.ref a, .int x0], [], w)) (fun r => zrun none (67, 67, ls, r.1.toList ++ st, r.2))) := by
  refine (zE_ (i := .invokevirtual 114) (by decide +kernel) _ _ _).trans ?_
  show zres (zinv none 114 67 64 ls (.int x0 :: .ref a :: st) w) = _
  unfold zinv
  show zres (if zrc none 114 w (.ref a) = true then zcall 114 [.ref a, .int x0] st 67 64 ls w else none) = _
  by_cases hc : zis w a 11
  · rw [if_pos (zrc_is hc (by decide +kernel)), zgd_pos hc]
    exact zq_call hr (Nat.le_of_ble_eq_true rfl) rfl rfl
  · rw [zgd_neg hc, if_neg (fun q => hc (zrc_of q (by decide +kernel)))]
    rfl
theorem e67_67 (ls : List Value) (x : Int32) (w : zH) : zrun none (67, 67, ls, [.int x], w) = some (some (.int x), w) := by
  refine (zE_ (i := .ireturn) (by decide +kernel) _ _ _).trans ?_
  show zres (if narrow .int (.int x) = .int x then _ else none) = _
  rw [if_pos (show narrow .int (.int x) = .int x from rfl)]
  rfl
theorem e67_68 (v0 v1 v2 v3 v4 v5 v7 : Value) (x : Nat) (st : List Value) (w : zH) : zrun none (67, 68, [v0, v1, v2, v3, v4, v5, .ref x, v7], st, w) = zrun none (67, 70, [v0, v1, v2, v3, v4, v5, .ref x, v7], (.ref x :: st), w) := (zE_ (i := .aload 6) (by decide +kernel) _ _ _).trans rfl
theorem e67_68n (v0 v1 v2 v3 v4 v5 v7 : Value) (st : List Value) (w : zH) : zrun none (67, 68, [v0, v1, v2, v3, v4, v5, .null, v7], st, w) = zrun none (67, 70, [v0, v1, v2, v3, v4, v5, .null, v7], (.null :: st), w) := (zE_ (i := .aload 6) (by decide +kernel) _ _ _).trans rfl
theorem e67_70 (v0 v1 v3 v4 v5 v6 v7 : Value) (x : Int32) (st : List Value) (w : zH) : zrun none (67, 70, [v0, v1, .int x, v3, v4, v5, v6, v7], st, w) = zrun none (67, 71, [v0, v1, .int x, v3, v4, v5, v6, v7], (.int x :: st), w) := (zE_ (i := .iload_n 2) (by decide +kernel) _ _ _).trans rfl
theorem e67_71 (v0 v1 v2 v3 v4 v6 v7 : Value) (x : Int32) (st : List Value) (w : zH) : zrun none (67, 71, [v0, v1, v2, v3, v4, .int x, v6, v7], st, w) = zrun none (67, 73, [v0, v1, v2, v3, v4, .int x, v6, v7], (.int x :: st), w) := (zE_ (i := .iload 5) (by decide +kernel) _ _ _).trans rfl
theorem e67_73 (ls : List Value) (a : Nat) (x0 : Int32) (x1 : Int32) (st : List Value) (w : zH) (hr : zcat st ≤ 8) : zrun none (67, 73, ls, (.int x1 :: .int x0 :: .ref a :: st), w) = zgd (zis w a 8) (zcl (zrun none (36, 0, [.ref a, .int x0, .int x1], [], w)) (fun r => zrun none (67, 76, ls, r.1.toList ++ st, r.2))) := by
  refine (zE_ (i := .invokevirtual 36) (by decide +kernel) _ _ _).trans ?_
  show zres (zinv none 36 67 73 ls (.int x1 :: .int x0 :: .ref a :: st) w) = _
  unfold zinv
  show zres (if zrc none 36 w (.ref a) = true then zcall 36 [.ref a, .int x0, .int x1] st 67 73 ls w else none) = _
  by_cases hc : zis w a 8
  · rw [if_pos (zrc_is hc (by decide +kernel)), zgd_pos hc]
    exact zq_call hr (Nat.le_of_ble_eq_true rfl) rfl rfl
  · rw [zgd_neg hc, if_neg (fun q => hc (zrc_of q (by decide +kernel)))]
    rfl
theorem e67_76 (ls : List Value) (a : Int32) (st : List Value) (w : zH) : zrun none (67, 76, ls, (.int a :: st), w) = if a = 0 then zrun none (67, 91, ls, st, w) else zrun none (67, 79, ls, st, w) := (zE_ (i := .ifCond .eq 15) (by decide +kernel) _ _ _).trans (zq_if_eq rfl rfl)
theorem e67_79 (v0 v1 v2 v3 v4 v5 v6 : Value) (x : Nat) (st : List Value) (w : zH) : zrun none (67, 79, [v0, v1, v2, v3, v4, v5, v6, .ref x], st, w) = zrun none (67, 81, [v0, v1, v2, v3, v4, v5, v6, .ref x], (.ref x :: st), w) := (zE_ (i := .aload 7) (by decide +kernel) _ _ _).trans rfl
theorem e67_79n (v0 v1 v2 v3 v4 v5 v6 : Value) (st : List Value) (w : zH) : zrun none (67, 79, [v0, v1, v2, v3, v4, v5, v6, .null], st, w) = zrun none (67, 81, [v0, v1, v2, v3, v4, v5, v6, .null], (.null :: st), w) := (zE_ (i := .aload 7) (by decide +kernel) _ _ _).trans rfl
theorem e67_81 (v0 v1 v2 v3 v5 v6 v7 : Value) (x : Int32) (st : List Value) (w : zH) : zrun none (67, 81, [v0, v1, v2, v3, .int x, v5, v6, v7], st, w) = zrun none (67, 83, [v0, v1, v2, v3, .int x, v5, v6, v7], (.int x :: st), w) := (zE_ (i := .iload 4) (by decide +kernel) _ _ _).trans rfl
theorem e67_83 (v0 v1 v2 v3 v4 v6 v7 : Value) (x : Int32) (st : List Value) (w : zH) : zrun none (67, 83, [v0, v1, v2, v3, v4, .int x, v6, v7], st, w) = zrun none (67, 85, [v0, v1, v2, v3, v4, .int x, v6, v7], (.int x :: st), w) := (zE_ (i := .iload 5) (by decide +kernel) _ _ _).trans rfl
theorem e67_85 (ls : List Value) (a : Nat) (x0 : Int32) (x1 : Int32) (st : List Value) (w : zH) (hr : zcat st ≤ 8) : zrun none (67, 85, ls, (.int x1 :: .int x0 :: .ref a :: st), w) = zgd (zis w a 8) (zcl (zrun none (36, 0, [.ref a, .int x0, .int x1], [], w)) (fun r => zrun none (67, 88, ls, r.1.toList ++ st, r.2))) := by
  refine (zE_ (i := .invokevirtual 36) (by decide +kernel) _ _ _).trans ?_
  show zres (zinv none 36 67 85 ls (.int x1 :: .int x0 :: .ref a :: st) w) = _
  unfold zinv
  show zres (if zrc none 36 w (.ref a) = true then zcall 36 [.ref a, .int x0, .int x1] st 67 85 ls w else none) = _
  by_cases hc : zis w a 8
  · rw [if_pos (zrc_is hc (by decide +kernel)), zgd_pos hc]
    exact zq_call hr (Nat.le_of_ble_eq_true rfl) rfl rfl
  · rw [zgd_neg hc, if_neg (fun q => hc (zrc_of q (by decide +kernel)))]
    rfl
theorem e67_88 (ls : List Value) (a : Int32) (st : List Value) (w : zH) : zrun none (67, 88, ls, (.int a :: st), w) = if a = 0 then zrun none (67, 91, ls, st, w) else zrun none (67, 97, ls, st, w) := (zE_ (i := .ifCond .ne 9) (by decide +kernel) _ _ _).trans (zq_if_ne rfl rfl)
theorem e67_91 (v1 v2 v3 v4 v5 v6 v7 : Value) (x : Nat) (st : List Value) (w : zH) : zrun none (67, 91, [.ref x, v1, v2, v3, v4, v5, v6, v7], st, w) = zrun none (67, 92, [.ref x, v1, v2, v3, v4, v5, v6, v7], (.ref x :: st), w) := (zE_ (i := .aload_n 0) (by decide +kernel) _ _ _).trans rfl
theorem e67_92 (ls st : List Value) (w : zH) : zrun none (67, 92, ls, st, w) = zrun none (67, 93, ls, (.int 2 :: st), w) := (zE_ (i := .iconst 2) (by decide +kernel) _ _ _).trans rfl
theorem e67_93 (ls : List Value) (a : Nat) (x0 : Int32) (st : List Value) (w : zH) (hr : zcat st ≤ 8) : zrun none (67, 93, ls, (.int x0 :: .ref a :: st), w) = zgd (zis w a 11) (zcl (zrun none (114, 0, [.ref a, .int x0], [], w)) (fun r => zrun none (67, 96, ls, r.1.toList ++ st, r.2))) := by
  refine (zE_ (i := .invokevirtual 114) (by decide +kernel) _ _ _).trans ?_
  show zres (zinv none 114 67 93 ls (.int x0 :: .ref a :: st) w) = _
  unfold zinv
  show zres (if zrc none 114 w (.ref a) = true then zcall 114 [.ref a, .int x0] st 67 93 ls w else none) = _
  by_cases hc : zis w a 11
  · rw [if_pos (zrc_is hc (by decide +kernel)), zgd_pos hc]
    exact zq_call hr (Nat.le_of_ble_eq_true rfl) rfl rfl
  · rw [zgd_neg hc, if_neg (fun q => hc (zrc_of q (by decide +kernel)))]
    rfl
theorem e67_96 (ls : List Value) (x : Int32) (w : zH) : zrun none (67, 96, ls, [.int x], w) = some (some (.int x), w) := by
  refine (zE_ (i := .ireturn) (by decide +kernel) _ _ _).trans ?_
  show zres (if narrow .int (.int x) = .int x then _ else none) = _
  rw [if_pos (show narrow .int (.int x) = .int x from rfl)]
  rfl
theorem e67_97 (v0 v1 v2 v3 v4 v5 v7 : Value) (x : Nat) (st : List Value) (w : zH) : zrun none (67, 97, [v0, v1, v2, v3, v4, v5, .ref x, v7], st, w) = zrun none (67, 99, [v0, v1, v2, v3, v4, v5, .ref x, v7], (.ref x :: st), w) := (zE_ (i := .aload 6) (by decide +kernel) _ _ _).trans rfl
theorem e67_97n (v0 v1 v2 v3 v4 v5 v7 : Value) (st : List Value) (w : zH) : zrun none (67, 97, [v0, v1, v2, v3, v4, v5, .null, v7], st, w) = zrun none (67, 99, [v0, v1, v2, v3, v4, v5, .null, v7], (.null :: st), w) := (zE_ (i := .aload 6) (by decide +kernel) _ _ _).trans rfl
theorem e67_99 (ls : List Value) (a : Nat) (st : List Value) (w : zH) : zrun none (67, 99, ls, (.ref a :: st), w) = zo (zf w a 800) (fun x => zrun none (67, 102, ls, (x :: st), w)) := (zE_ (i := .getfield 800) (by decide +kernel) _ _ _).trans zq_getf
theorem e67_102 (v0 v1 v3 v4 v5 v6 v7 : Value) (x : Int32) (st : List Value) (w : zH) : zrun none (67, 102, [v0, v1, .int x, v3, v4, v5, v6, v7], st, w) = zrun none (67, 103, [v0, v1, .int x, v3, v4, v5, v6, v7], (.int x :: st), w) := (zE_ (i := .iload_n 2) (by decide +kernel) _ _ _).trans rfl
theorem e67_103 (v0 v1 v2 v3 v4 v5 v6 : Value) (x : Nat) (st : List Value) (w : zH) : zrun none (67, 103, [v0, v1, v2, v3, v4, v5, v6, .ref x], st, w) = zrun none (67, 105, [v0, v1, v2, v3, v4, v5, v6, .ref x], (.ref x :: st), w) := (zE_ (i := .aload 7) (by decide +kernel) _ _ _).trans rfl
theorem e67_103n (v0 v1 v2 v3 v4 v5 v6 : Value) (st : List Value) (w : zH) : zrun none (67, 103, [v0, v1, v2, v3, v4, v5, v6, .null], st, w) = zrun none (67, 105, [v0, v1, v2, v3, v4, v5, v6, .null], (.null :: st), w) := (zE_ (i := .aload 7) (by decide +kernel) _ _ _).trans rfl
theorem e67_105 (ls : List Value) (a : Nat) (st : List Value) (w : zH) : zrun none (67, 105, ls, (.ref a :: st), w) = zo (zf w a 800) (fun x => zrun none (67, 108, ls, (x :: st), w)) := (zE_ (i := .getfield 800) (by decide +kernel) _ _ _).trans zq_getf
theorem e67_108 (v0 v1 v2 v3 v5 v6 v7 : Value) (x : Int32) (st : List Value) (w : zH) : zrun none (67, 108, [v0, v1, v2, v3, .int x, v5, v6, v7], st, w) = zrun none (67, 110, [v0, v1, v2, v3, .int x, v5, v6, v7], (.int x :: st), w) := (zE_ (i := .iload 4) (by decide +kernel) _ _ _).trans rfl
theorem e67_110 (v0 v1 v2 v3 v4 v6 v7 : Value) (x : Int32) (st : List Value) (w : zH) : zrun none (67, 110, [v0, v1, v2, v3, v4, .int x, v6, v7], st, w) = zrun none (67, 112, [v0, v1, v2, v3, v4, .int x, v6, v7], (.int x :: st), w) := (zE_ (i := .iload 5) (by decide +kernel) _ _ _).trans rfl
theorem e67_115 (v1 v2 v3 v4 v5 v6 v7 : Value) (x : Nat) (st : List Value) (w : zH) : zrun none (67, 115, [.ref x, v1, v2, v3, v4, v5, v6, v7], st, w) = zrun none (67, 116, [.ref x, v1, v2, v3, v4, v5, v6, v7], (.ref x :: st), w) := (zE_ (i := .aload_n 0) (by decide +kernel) _ _ _).trans rfl
theorem e67_116 (v0 v1 v2 v3 v4 v6 v7 : Value) (x : Int32) (st : List Value) (w : zH) : zrun none (67, 116, [v0, v1, v2, v3, v4, .int x, v6, v7], st, w) = zrun none (67, 118, [v0, v1, v2, v3, v4, .int x, v6, v7], (.int x :: st), w) := (zE_ (i := .iload 5) (by decide +kernel) _ _ _).trans rfl
theorem e67_118 (ls : List Value) (a : Nat) (x0 : Int32) (st : List Value) (w : zH) (hr : zcat st ≤ 8) : zrun none (67, 118, ls, (.int x0 :: .ref a :: st), w) = zgd (zis w a 11) (zcl (zrun none (115, 0, [.ref a, .int x0], [], w)) (fun r => zrun none (67, 121, ls, r.1.toList ++ st, r.2))) := by
  refine (zE_ (i := .invokevirtual 115) (by decide +kernel) _ _ _).trans ?_
  show zres (zinv none 115 67 118 ls (.int x0 :: .ref a :: st) w) = _
  unfold zinv
  show zres (if zrc none 115 w (.ref a) = true then zcall 115 [.ref a, .int x0] st 67 118 ls w else none) = _
  by_cases hc : zis w a 11
  · rw [if_pos (zrc_is hc (by decide +kernel)), zgd_pos hc]
    exact zq_call hr (Nat.le_of_ble_eq_true rfl) rfl rfl
  · rw [zgd_neg hc, if_neg (fun q => hc (zrc_of q (by decide +kernel)))]
    rfl
theorem e67_121 (ls : List Value) (x : Int32) (w : zH) : zrun none (67, 121, ls, [.int x], w) = some (some (.int x), w) := by
  refine (zE_ (i := .ireturn) (by decide +kernel) _ _ _).trans ?_
  show zres (if narrow .int (.int x) = .int x then _ else none) = _
  rw [if_pos (show narrow .int (.int x) = .int x from rfl)]
  rfl
theorem e68_0 (v1 v2 : Value) (x : Nat) (st : List Value) (w : zH) : zrun none (68, 0, [.ref x, v1, v2], st, w) = zrun none (68, 1, [.ref x, v1, v2], (.ref x :: st), w) := (zE_ (i := .aload_n 0) (by decide +kernel) _ _ _).trans rfl
theorem e68_1 (v0 v2 : Value) (x : Int32) (st : List Value) (w : zH) : zrun none (68, 1, [v0, .int x, v2], st, w) = zrun none (68, 2, [v0, .int x, v2], (.int x :: st), w) := (zE_ (i := .iload_n 1) (by decide +kernel) _ _ _).trans rfl
theorem e68_2 (ls : List Value) (a : Nat) (x0 : Int32) (st : List Value) (w : zH) (hr : zcat st ≤ 8) : zrun none (68, 2, ls, (.int x0 :: .ref a :: st), w) = zgd (zis w a 11) (zcl (zrun none (110, 0, [.ref a, .int x0], [], w)) (fun r => zrun none (68, 5, ls, r.1.toList ++ st, r.2))) := by
  refine (zE_ (i := .invokevirtual 110) (by decide +kernel) _ _ _).trans ?_
  show zres (zinv none 110 68 2 ls (.int x0 :: .ref a :: st) w) = _
  unfold zinv
  show zres (if zrc none 110 w (.ref a) = true then zcall 110 [.ref a, .int x0] st 68 2 ls w else none) = _
  by_cases hc : zis w a 11
  · rw [if_pos (zrc_is hc (by decide +kernel)), zgd_pos hc]
    exact zq_call hr (Nat.le_of_ble_eq_true rfl) rfl rfl
  · rw [zgd_neg hc, if_neg (fun q => hc (zrc_of q (by decide +kernel)))]
    rfl
theorem e68_5 (v0 v1 v2 : Value) (x : Nat) (st : List Value) (w : zH) (h : v1.category = 1) : zrun none (68, 5, [v0, v1, v2], (.ref x :: st), w) = zrun none (68, 6, [v0, v1, .ref x], st, w) := by
  refine (zE_ (i := .astore_n 2) (by decide +kernel) _ _ _).trans ?_
  have hz : zfree [v0, v1, v2] 2 = true := by show decide (v1.category = 1) = true; exact decide_eq_true h
  show zres (zst zref 2 1 68 5 [v0, v1, v2] (.ref x :: st) w) = _
  unfold zst
  dsimp only
  rw [if_pos ⟨rfl, Nat.le_of_ble_eq_true rfl, hz⟩]
  rfl
theorem e68_5n (v0 v1 v2 : Value) (st : List Value) (w : zH) (h : v1.category = 1) : zrun none (68, 5, [v0, v1, v2], (.null :: st), w) = zrun none (68, 6, [v0, v1, .null], st, w) := by
  refine (zE_ (i := .astore_n 2) (by decide +kernel) _ _ _).trans ?_
  have hz : zfree [v0, v1, v2] 2 = true := by show decide (v1.category = 1) = true; exact decide_eq_true h
  show zres (zst zref 2 1 68 5 [v0, v1, v2] (.null :: st) w) = _
  unfold zst
  dsimp only
  rw [if_pos ⟨rfl, Nat.le_of_ble_eq_true rfl, hz⟩]
  rfl
theorem e68_6 (v0 v1 : Value) (x : Nat) (st : List Value) (w : zH) : zrun none (68, 6, [v0, v1, .ref x], st, w) = zrun none (68, 7, [v0, v1, .ref x], (.ref x :: st), w) := (zE_ (i := .aload_n 2) (by decide +kernel) _ _ _).trans rfl
theorem e68_6n (v0 v1 : Value) (st : List Value) (w : zH) : zrun none (68, 6, [v0, v1, .null], st, w) = zrun none (68, 7, [v0, v1, .null], (.null :: st), w) := (zE_ (i := .aload_n 2) (by decide +kernel) _ _ _).trans rfl
theorem e68_7n (ls st : List Value) (w : zH) : zrun none (68, 7, ls, (.null :: st), w) = zrun none (68, 10, ls, st, w) := (zE_ (i := .ifnonnull 6) (by decide +kernel) _ _ _).trans rfl
theorem e68_7 (ls : List Value) (a : Nat) (st : List Value) (w : zH) (h : a < zX) : zrun none (68, 7, ls, (.ref a :: st), w) = zrun none (68, 13, ls, st, w) := by
  refine (zE_ (i := .ifnonnull 6) (by decide +kernel) _ _ _).trans ?_
  simp only [zI, if_pos h]
  rfl
theorem e68_10 (ls st : List Value) (w : zH) : zrun none (68, 10, ls, st, w) = zrun none (68, 12, ls, (.int (-1000001) :: st), w) := (zE_ (i := .bipush (-1000001)) (by decide +kernel) _ _ _).trans rfl
theorem e68_12 (ls : List Value) (x : Int32) (w : zH) : zrun none (68, 12, ls, [.int x], w) = some (some (.int x), w) := by
  refine (zE_ (i := .ireturn) (by decide +kernel) _ _ _).trans ?_
  show zres (if narrow .int (.int x) = .int x then _ else none) = _
  rw [if_pos (show narrow .int (.int x) = .int x from rfl)]
  rfl
theorem e68_13 (v0 v1 : Value) (x : Nat) (st : List Value) (w : zH) : zrun none (68, 13, [v0, v1, .ref x], st, w) = zrun none (68, 14, [v0, v1, .ref x], (.ref x :: st), w) := (zE_ (i := .aload_n 2) (by decide +kernel) _ _ _).trans rfl
theorem e68_13n (v0 v1 : Value) (st : List Value) (w : zH) : zrun none (68, 13, [v0, v1, .null], st, w) = zrun none (68, 14, [v0, v1, .null], (.null :: st), w) := (zE_ (i := .aload_n 2) (by decide +kernel) _ _ _).trans rfl
theorem e68_14 (ls : List Value) (a : Nat) (st : List Value) (w : zH) : zrun none (68, 14, ls, (.ref a :: st), w) = zo (zf w a 801) (fun x => zrun none (68, 17, ls, (x :: st), w)) := (zE_ (i := .getfield 801) (by decide +kernel) _ _ _).trans zq_getf
theorem e68_17 (ls : List Value) (a : Int32) (st : List Value) (w : zH) : zrun none (68, 17, ls, (.int a :: st), w) = if a = 0 then zrun none (68, 20, ls, st, w) else zrun none (68, 26, ls, st, w) := (zE_ (i := .ifCond .ne 9) (by decide +kernel) _ _ _).trans (zq_if_ne rfl rfl)
theorem e68_20 (v1 v2 : Value) (x : Nat) (st : List Value) (w : zH) : zrun none (68, 20, [.ref x, v1, v2], st, w) = zrun none (68, 21, [.ref x, v1, v2], (.ref x :: st), w) := (zE_ (i := .aload_n 0) (by decide +kernel) _ _ _).trans rfl
theorem e68_21 (ls st : List Value) (w : zH) : zrun none (68, 21, ls, st, w) = zrun none (68, 22, ls, (.int 1 :: st), w) := (zE_ (i := .iconst 1) (by decide +kernel) _ _ _).trans rfl
theorem e68_22 (ls : List Value) (a : Nat) (x0 : Int32) (st : List Value) (w : zH) (hr : zcat st ≤ 8) : zrun none (68, 22, ls, (.int x0 :: .ref a :: st), w) = zgd (zis w a 11) (zcl (zrun none (114, 0, [.ref a, .int x0], [], w)) (fun r => zrun none (68, 25, ls, r.1.toList ++ st, r.2))) := by
  refine (zE_ (i := .invokevirtual 114) (by decide +kernel) _ _ _).trans ?_
  show zres (zinv none 114 68 22 ls (.int x0 :: .ref a :: st) w) = _
  unfold zinv
  show zres (if zrc none 114 w (.ref a) = true then zcall 114 [.ref a, .int x0] st 68 22 ls w else none) = _
  by_cases hc : zis w a 11
  · rw [if_pos (zrc_is hc (by decide +kernel)), zgd_pos hc]
    exact zq_call hr (Nat.le_of_ble_eq_true rfl) rfl rfl
  · rw [zgd_neg hc, if_neg (fun q => hc (zrc_of q (by decide +kernel)))]
    rfl
theorem e68_25 (ls : List Value) (x : Int32) (w : zH) : zrun none (68, 25, ls, [.int x], w) = some (some (.int x), w) := by
  refine (zE_ (i := .ireturn) (by decide +kernel) _ _ _).trans ?_
  show zres (if narrow .int (.int x) = .int x then _ else none) = _
  rw [if_pos (show narrow .int (.int x) = .int x from rfl)]
  rfl
theorem e68_26 (v0 v1 : Value) (x : Nat) (st : List Value) (w : zH) : zrun none (68, 26, [v0, v1, .ref x], st, w) = zrun none (68, 27, [v0, v1, .ref x], (.ref x :: st), w) := (zE_ (i := .aload_n 2) (by decide +kernel) _ _ _).trans rfl
theorem e68_26n (v0 v1 : Value) (st : List Value) (w : zH) : zrun none (68, 26, [v0, v1, .null], st, w) = zrun none (68, 27, [v0, v1, .null], (.null :: st), w) := (zE_ (i := .aload_n 2) (by decide +kernel) _ _ _).trans rfl
theorem e68_27 (ls st : List Value) (w : zH) : zrun none (68, 27, ls, st, w) = zrun none (68, 28, ls, (.int 0 :: st), w) := (zE_ (i := .iconst 0) (by decide +kernel) _ _ _).trans rfl
theorem e68_28 (ls : List Value) (x : Int32) (a : Nat) (st : List Value) (w : zH) : zrun none (68, 28, ls, (.int x :: .ref a :: st), w) = zgd (a < zX ∧ (zf w a 801).isSome = true ∧ (x = 0 ∨ x = 1)) (zrun none (68, 31, ls, st, zpf w a 801 (.int x))) := by
  refine (zE_ (i := .putfield 801) (by decide +kernel) _ _ _).trans ?_
  by_cases hg : a < zX ∧ (zf w a 801).isSome = true ∧ (x = 0 ∨ x = 1)
  · rw [zgd_pos hg]
    obtain ⟨ha, h, hb⟩ := hg
    exact zq_putf ha h (by rcases hb with rfl | rfl <;> rfl) (by rcases hb with rfl | rfl <;> rfl)
  · rw [zgd_neg hg]
    exact zq_putf_no (fun h1 h2 h3 => hg ⟨h1, h2, zbit h3⟩)
theorem e68_31 (v1 v2 : Value) (x : Nat) (st : List Value) (w : zH) : zrun none (68, 31, [.ref x, v1, v2], st, w) = zrun none (68, 32, [.ref x, v1, v2], (.ref x :: st), w) := (zE_ (i := .aload_n 0) (by decide +kernel) _ _ _).trans rfl
theorem e68_32 (v0 v1 : Value) (x : Nat) (st : List Value) (w : zH) : zrun none (68, 32, [v0, v1, .ref x], st, w) = zrun none (68, 33, [v0, v1, .ref x], (.ref x :: st), w) := (zE_ (i := .aload_n 2) (by decide +kernel) _ _ _).trans rfl
theorem e68_32n (v0 v1 : Value) (st : List Value) (w : zH) : zrun none (68, 32, [v0, v1, .null], st, w) = zrun none (68, 33, [v0, v1, .null], (.null :: st), w) := (zE_ (i := .aload_n 2) (by decide +kernel) _ _ _).trans rfl
theorem e68_33 (ls : List Value) (a : Nat) (st : List Value) (w : zH) : zrun none (68, 33, ls, (.ref a :: st), w) = zo (zf w a 803) (fun x => zrun none (68, 36, ls, (x :: st), w)) := (zE_ (i := .getfield 803) (by decide +kernel) _ _ _).trans zq_getf
theorem e68_36 (ls : List Value) (a : Nat) (x0 : Int32) (st : List Value) (w : zH) (hr : zcat st ≤ 8) : zrun none (68, 36, ls, (.int x0 :: .ref a :: st), w) = zgd (zis w a 11) (zcl (zrun none (115, 0, [.ref a, .int x0], [], w)) (fun r => zrun none (68, 39, ls, r.1.toList ++ st, r.2))) := by
  refine (zE_ (i := .invokevirtual 115) (by decide +kernel) _ _ _).trans ?_
  show zres (zinv none 115 68 36 ls (.int x0 :: .ref a :: st) w) = _
  unfold zinv
  show zres (if zrc none 115 w (.ref a) = true then zcall 115 [.ref a, .int x0] st 68 36 ls w else none) = _
  by_cases hc : zis w a 11
  · rw [if_pos (zrc_is hc (by decide +kernel)), zgd_pos hc]
    exact zq_call hr (Nat.le_of_ble_eq_true rfl) rfl rfl
  · rw [zgd_neg hc, if_neg (fun q => hc (zrc_of q (by decide +kernel)))]
    rfl
theorem e68_39 (ls : List Value) (x : Int32) (w : zH) : zrun none (68, 39, ls, [.int x], w) = some (some (.int x), w) := by
  refine (zE_ (i := .ireturn) (by decide +kernel) _ _ _).trans ?_
  show zres (if narrow .int (.int x) = .int x then _ else none) = _
  rw [if_pos (show narrow .int (.int x) = .int x from rfl)]
  rfl
theorem e69_0 (x : Nat) (st : List Value) (w : zH) : zrun none (69, 0, [.ref x], st, w) = zrun none (69, 1, [.ref x], (.ref x :: st), w) := (zE_ (i := .aload_n 0) (by decide +kernel) _ _ _).trans rfl
theorem e69_1 (ls : List Value) (a : Nat) (st : List Value) (w : zH) : zrun none (69, 1, ls, (.ref a :: st), w) = zo (zf w a 1101) (fun x => zrun none (69, 4, ls, (x :: st), w)) := (zE_ (i := .getfield 1101) (by decide +kernel) _ _ _).trans zq_getf
theorem e69_4 (ls : List Value) (a : Nat) (st : List Value) (w : zH) (hr : zcat st ≤ 8) : zrun none (69, 4, ls, (.ref a :: st), w) = zgd (zis w a 3) (zcl (zrun none (15, 0, [.ref a], [], w)) (fun r => zrun none (69, 7, ls, r.1.toList ++ st, r.2))) := by
  refine (zE_ (i := .invokevirtual 15) (by decide +kernel) _ _ _).trans ?_
  show zres (zinv none 15 69 4 ls (.ref a :: st) w) = _
  unfold zinv
  show zres (if zrc none 15 w (.ref a) = true then zcall 15 [.ref a] st 69 4 ls w else none) = _
  by_cases hc : zis w a 3
  · rw [if_pos (zrc_is hc (by decide +kernel)), zgd_pos hc]
    exact zq_call hr (Nat.le_of_ble_eq_true rfl) rfl rfl
  · rw [zgd_neg hc, if_neg (fun q => hc (zrc_of q (by decide +kernel)))]
    rfl
theorem e69_7 (ls : List Value) (x : Int32) (w : zH) : zrun none (69, 7, ls, [.int x], w) = some (some (.int x), w) := by
  refine (zE_ (i := .ireturn) (by decide +kernel) _ _ _).trans ?_
  show zres (if narrow .int (.int x) = .int x then _ else none) = _
  rw [if_pos (show narrow .int (.int x) = .int x from rfl)]
  rfl
theorem e70_0 (v1 v2 v3 v4 : Value) (x : Nat) (st : List Value) (w : zH) : zrun none (70, 0, [.ref x, v1, v2, v3, v4], st, w) = zrun none (70, 1, [.ref x, v1, v2, v3, v4], (.ref x :: st), w) := (zE_ (i := .aload_n 0) (by decide +kernel) _ _ _).trans rfl
theorem e70_1 (ls : List Value) (a : Nat) (st : List Value) (w : zH) : zrun none (70, 1, ls, (.ref a :: st), w) = zo (zf w a 1101) (fun x => zrun none (70, 4, ls, (x :: st), w)) := (zE_ (i := .getfield 1101) (by decide +kernel) _ _ _).trans zq_getf
theorem e70_4 (v0 v2 v3 v4 : Value) (x : Int32) (st : List Value) (w : zH) : zrun none (70, 4, [v0, .int x, v2, v3, v4], st, w) = zrun none (70, 5, [v0, .int x, v2, v3, v4], (.int x :: st), w) := (zE_ (i := .iload_n 1) (by decide +kernel) _ _ _).trans rfl
theorem e70_5 (ls : List Value) (a : Nat) (x0 : Int32) (st : List Value) (w : zH) (hr : zcat st ≤ 8) : zrun none (70, 5, ls, (.int x0 :: .ref a :: st), w) = zgd (zis w a 3) (zcl (zrun none (14, 0, [.ref a, .int x0], [], w)) (fun r => zrun none (70, 8, ls, r.1.toList ++ st, r.2))) := by
  refine (zE_ (i := .invokevirtual 14) (by decide +kernel) _ _ _).trans ?_
  show zres (zinv none 14 70 5 ls (.int x0 :: .ref a :: st) w) = _
  unfold zinv
  show zres (if zrc none 14 w (.ref a) = true then zcall 14 [.ref a, .int x0] st 70 5 ls w else none) = _
  by_cases hc : zis w a 3
  · rw [if_pos (zrc_is hc (by decide +kernel)), zgd_pos hc]
    exact zq_call hr (Nat.le_of_ble_eq_true rfl) rfl rfl
  · rw [zgd_neg hc, if_neg (fun q => hc (zrc_of q (by decide +kernel)))]
    rfl
theorem e70_8 (ls : List Value) (a : Int32) (st : List Value) (w : zH) : zrun none (70, 8, ls, (.int a :: st), w) = if a = 0 then zrun none (70, 39, ls, st, w) else zrun none (70, 11, ls, st, w) := (zE_ (i := .ifCond .eq 31) (by decide +kernel) _ _ _).trans (zq_if_eq rfl rfl)
theorem e70_11 (v0 v1 v3 v4 : Value) (x : Int32) (st : List Value) (w : zH) : zrun none (70, 11, [v0, v1, .int x, v3, v4], st, w) = zrun none (70, 12, [v0, v1, .int x, v3, v4], (.int x :: st), w) := (zE_ (i := .iload_n 2) (by decide +kernel) _ _ _).trans rfl
theorem e70_12 (ls : List Value) (x0 : Int32) (st : List Value) (w : zH) (hr : zcat st ≤ 8) : zrun none (70, 12, ls, (.int x0 :: st), w) = zcl (zrun none (102, 0, [.int x0], [], w)) (fun r => zrun none (70, 15, ls, r.1.toList ++ st, r.2)) := by
  refine (zE_ (i := .invokestatic 102) (by decide +kernel) _ _ _).trans ?_
  show zres (if (99 : Nat) = 99 ∧ 1 ≤ ((.int x0 :: st) : List Value).length then zcall 102 [.int x0] st 70 12 ls w else none) = _
  rw [if_pos ⟨rfl, by simp⟩]
  exact zq_call hr (Nat.le_of_ble_eq_true rfl) rfl rfl
theorem e70_15 (ls : List Value) (a : Int32) (st : List Value) (w : zH) : zrun none (70, 15, ls, (.int a :: st), w) = if a = 0 then zrun none (70, 39, ls, st, w) else zrun none (70, 18, ls, st, w) := (zE_ (i := .ifCond .eq 24) (by decide +kernel) _ _ _).trans (zq_if_eq rfl rfl)
theorem e70_18 (v0 v1 v2 v4 : Value) (x : Int32) (st : List Value) (w : zH) : zrun none (70, 18, [v0, v1, v2, .int x, v4], st, w) = zrun none (70, 19, [v0, v1, v2, .int x, v4], (.int x :: st), w) := (zE_ (i := .iload_n 3) (by decide +kernel) _ _ _).trans rfl
theorem e70_19 (ls : List Value) (x0 : Int32) (st : List Value) (w : zH) (hr : zcat st ≤ 8) : zrun none (70, 19, ls, (.int x0 :: st), w) = zcl (zrun none (101, 0, [.int x0], [], w)) (fun r => zrun none (70, 22, ls, r.1.toList ++ st, r.2)) := by
  refine (zE_ (i := .invokestatic 101) (by decide +kernel) _ _ _).trans ?_
  show zres (if (99 : Nat) = 99 ∧ 1 ≤ ((.int x0 :: st) : List Value).length then zcall 101 [.int x0] st 70 19 ls w else none) = _
  rw [if_pos ⟨rfl, by simp⟩]
  exact zq_call hr (Nat.le_of_ble_eq_true rfl) rfl rfl
theorem e70_22 (ls : List Value) (a : Int32) (st : List Value) (w : zH) : zrun none (70, 22, ls, (.int a :: st), w) = if a = 0 then zrun none (70, 39, ls, st, w) else zrun none (70, 25, ls, st, w) := (zE_ (i := .ifCond .eq 17) (by decide +kernel) _ _ _).trans (zq_if_eq rfl rfl)
theorem e70_25 (v0 v1 v2 v3 : Value) (x : Int32) (st : List Value) (w : zH) : zrun none (70, 25, [v0, v1, v2, v3, .int x], st, w) = zrun none (70, 27, [v0, v1, v2, v3, .int x], (.int x :: st), w) := (zE_ (i := .iload 4) (by decide +kernel) _ _ _).trans rfl
theorem e70_27 (ls : List Value) (x0 : Int32) (st : List Value) (w : zH) (hr : zcat st ≤ 8) : zrun none (70, 27, ls, (.int x0 :: st), w) = zcl (zrun none (101, 0, [.int x0], [], w)) (fun r => zrun none (70, 30, ls, r.1.toList ++ st, r.2)) := by
  refine (zE_ (i := .invokestatic 101) (by decide +kernel) _ _ _).trans ?_
  show zres (if (99 : Nat) = 99 ∧ 1 ≤ ((.int x0 :: st) : List Value).length then zcall 101 [.int x0] st 70 27 ls w else none) = _
  rw [if_pos ⟨rfl, by simp⟩]
  exact zq_call hr (Nat.le_of_ble_eq_true rfl) rfl rfl
theorem e70_30 (ls : List Value) (a : Int32) (st : List Value) (w : zH) : zrun none (70, 30, ls, (.int a :: st), w) = if a = 0 then zrun none (70, 39, ls, st, w) else zrun none (70, 33, ls, st, w) := (zE_ (i := .ifCond .eq 9) (by decide +kernel) _ _ _).trans (zq_if_eq rfl rfl)
theorem e70_33 (v0 v1 v2 v3 : Value) (x : Int32) (st : List Value) (w : zH) : zrun none (70, 33, [v0, v1, v2, v3, .int x], st, w) = zrun none (70, 35, [v0, v1, v2, v3, .int x], (.int x :: st), w) := (zE_ (i := .iload 4) (by decide +kernel) _ _ _).trans rfl
theorem e70_35 (v0 v1 v2 v4 : Value) (x : Int32) (st : List Value) (w : zH) : zrun none (70, 35, [v0, v1, v2, .int x, v4], st, w) = zrun none (70, 36, [v0, v1, v2, .int x, v4], (.int x :: st), w) := (zE_ (i := .iload_n 3) (by decide +kernel) _ _ _).trans rfl
theorem e70_36 (ls : List Value) (a b : Int32) (st : List Value) (w : zH) : zrun none (70, 36, ls, (.int b :: .int a :: st), w) = if b ≤ a then zrun none (70, 42, ls, st, w) else zrun none (70, 39, ls, st, w) := (zE_ (i := .if_icmp .ge 6) (by decide +kernel) _ _ _).trans (zq_ic_ge rfl rfl)
theorem e70_39 (ls st : List Value) (w : zH) : zrun none (70, 39, ls, st, w) = zrun none (70, 41, ls, (.int (-1000001) :: st), w) := (zE_ (i := .bipush (-1000001)) (by decide +kernel) _ _ _).trans rfl
theorem e70_41 (ls : List Value) (x : Int32) (w : zH) : zrun none (70, 41, ls, [.int x], w) = some (some (.int x), w) := by
  refine (zE_ (i := .ireturn) (by decide +kernel) _ _ _).trans ?_
  show zres (if narrow .int (.int x) = .int x then _ else none) = _
  rw [if_pos (show narrow .int (.int x) = .int x from rfl)]
  rfl
theorem e70_42 (v1 v2 v3 v4 : Value) (x : Nat) (st : List Value) (w : zH) : zrun none (70, 42, [.ref x, v1, v2, v3, v4], st, w) = zrun none (70, 43, [.ref x, v1, v2, v3, v4], (.ref x :: st), w) := (zE_ (i := .aload_n 0) (by decide +kernel) _ _ _).trans rfl
theorem e70_43 (ls : List Value) (a : Nat) (st : List Value) (w : zH) : zrun none (70, 43, ls, (.ref a :: st), w) = zo (zf w a 1101) (fun x => zrun none (70, 46, ls, (x :: st), w)) := (zE_ (i := .getfield 1101) (by decide +kernel) _ _ _).trans zq_getf
theorem e70_46 (ls st : List Value) (w : zH) : zrun none (70, 46, ls, st, w) = zgd (w.length + 1 < zX) (zrun none (70, 49, ls, (.ref w.length :: st), w ++ [(5, [.int 0, .int 0, .int 0, .int 0])])) := by
  refine (zE_ (i := .new 5) (by decide +kernel) _ _ _).trans ?_
  simp only [zI]
  rw [if_pos (by decide)]
  unfold znw
  by_cases h : w.length + 1 < zX
  · rw [if_pos h, zgd_pos h]
    rfl
  · rw [if_neg h, zgd_neg h]
    rfl
theorem e70_49 (ls : List Value) (x : Int32) (st : List Value) (w : zH) : zrun none (70, 49, ls, (.int x :: st), w) = zrun none (70, 50, ls, (.int x :: .int x :: st), w) := (zE_ (i := .dup) (by decide +kernel) _ _ _).trans rfl
theorem e70_49r (ls : List Value) (x : Nat) (st : List Value) (w : zH) : zrun none (70, 49, ls, (.ref x :: st), w) = zrun none (70, 50, ls, (.ref x :: .ref x :: st), w) := (zE_ (i := .dup) (by decide +kernel) _ _ _).trans rfl
theorem e70_50 (v0 v2 v3 v4 : Value) (x : Int32) (st : List Value) (w : zH) : zrun none (70, 50, [v0, .int x, v2, v3, v4], st, w) = zrun none (70, 51, [v0, .int x, v2, v3, v4], (.int x :: st), w) := (zE_ (i := .iload_n 1) (by decide +kernel) _ _ _).trans rfl
theorem e70_51 (v0 v1 v3 v4 : Value) (x : Int32) (st : List Value) (w : zH) : zrun none (70, 51, [v0, v1, .int x, v3, v4], st, w) = zrun none (70, 52, [v0, v1, .int x, v3, v4], (.int x :: st), w) := (zE_ (i := .iload_n 2) (by decide +kernel) _ _ _).trans rfl
theorem e70_52 (v0 v1 v2 v4 : Value) (x : Int32) (st : List Value) (w : zH) : zrun none (70, 52, [v0, v1, v2, .int x, v4], st, w) = zrun none (70, 53, [v0, v1, v2, .int x, v4], (.int x :: st), w) := (zE_ (i := .iload_n 3) (by decide +kernel) _ _ _).trans rfl
theorem e70_53 (v0 v1 v2 v3 : Value) (x : Int32) (st : List Value) (w : zH) : zrun none (70, 53, [v0, v1, v2, v3, .int x], st, w) = zrun none (70, 55, [v0, v1, v2, v3, .int x], (.int x :: st), w) := (zE_ (i := .iload 4) (by decide +kernel) _ _ _).trans rfl
theorem e70_55 (ls : List Value) (a : Nat) (x0 : Int32) (x1 : Int32) (x2 : Int32) (x3 : Int32) (st : List Value) (w : zH) (hr : zcat st ≤ 8) : zrun none (70, 55, ls, (.int x3 :: .int x2 :: .int x1 :: .int x0 :: .ref a :: st), w) = zgd (zis w a 5) (zcl (zrun none (22, 0, [.ref a, .int x0, .int x1, .int x2, .int x3], [], w)) (fun r => zrun none (70, 58, ls, r.1.toList ++ st, r.2))) := by
  refine (zE_ (i := .invokespecial 22) (by decide +kernel) _ _ _).trans ?_
  show zres (zinv none 22 70 55 ls (.int x3 :: .int x2 :: .int x1 :: .int x0 :: .ref a :: st) w) = _
  unfold zinv
  show zres (if zrc none 22 w (.ref a) = true then zcall 22 [.ref a, .int x0, .int x1, .int x2, .int x3] st 70 55 ls w else none) = _
  by_cases hc : zis w a 5
  · rw [if_pos (zrc_is hc (by decide +kernel)), zgd_pos hc]
    exact zq_call hr (Nat.le_of_ble_eq_true rfl) rfl rfl
  · rw [zgd_neg hc, if_neg (fun q => hc (zrc_of q (by decide +kernel)))]
    rfl
theorem e70_58 (ls : List Value) (a : Nat) (x0 : Nat) (st : List Value) (w : zH) (hr : zcat st ≤ 8) : zrun none (70, 58, ls, (.ref x0 :: .ref a :: st), w) = zgd (zis w a 3) (zcl (zrun none (16, 0, [.ref a, .ref x0], [], w)) (fun r => zrun none (70, 61, ls, r.1.toList ++ st, r.2))) := by
  refine (zE_ (i := .invokevirtual 16) (by decide +kernel) _ _ _).trans ?_
  show zres (zinv none 16 70 58 ls (.ref x0 :: .ref a :: st) w) = _
  unfold zinv
  show zres (if zrc none 16 w (.ref a) = true then zcall 16 [.ref a, .ref x0] st 70 58 ls w else none) = _
  by_cases hc : zis w a 3
  · rw [if_pos (zrc_is hc (by decide +kernel)), zgd_pos hc]
    exact zq_call hr (Nat.le_of_ble_eq_true rfl) rfl rfl
  · rw [zgd_neg hc, if_neg (fun q => hc (zrc_of q (by decide +kernel)))]
    rfl
theorem e70_61 (ls : List Value) (x : Int32) (w : zH) : zrun none (70, 61, ls, [.int x], w) = some (some (.int x), w) := by
  refine (zE_ (i := .ireturn) (by decide +kernel) _ _ _).trans ?_
  show zres (if narrow .int (.int x) = .int x then _ else none) = _
  rw [if_pos (show narrow .int (.int x) = .int x from rfl)]
  rfl
theorem e71_0 (v1 v2 v3 : Value) (x : Nat) (st : List Value) (w : zH) : zrun none (71, 0, [.ref x, v1, v2, v3], st, w) = zrun none (71, 1, [.ref x, v1, v2, v3], (.ref x :: st), w) := (zE_ (i := .aload_n 0) (by decide +kernel) _ _ _).trans rfl
theorem e71_1 (ls : List Value) (a : Nat) (st : List Value) (w : zH) : zrun none (71, 1, ls, (.ref a :: st), w) = zo (zf w a 1101) (fun x => zrun none (71, 4, ls, (x :: st), w)) := (zE_ (i := .getfield 1101) (by decide +kernel) _ _ _).trans zq_getf
theorem e71_4 (v0 v2 v3 : Value) (x : Int32) (st : List Value) (w : zH) : zrun none (71, 4, [v0, .int x, v2, v3], st, w) = zrun none (71, 5, [v0, .int x, v2, v3], (.int x :: st), w) := (zE_ (i := .iload_n 1) (by decide +kernel) _ _ _).trans rfl
theorem e71_5 (ls : List Value) (a : Nat) (x0 : Int32) (st : List Value) (w : zH) (hr : zcat st ≤ 8) : zrun none (71, 5, ls, (.int x0 :: .ref a :: st), w) = zgd (zis w a 3) (zcl (zrun none (14, 0, [.ref a, .int x0], [], w)) (fun r => zrun none (71, 8, ls, r.1.toList ++ st, r.2))) := by
  refine (zE_ (i := .invokevirtual 14) (by decide +kernel) _ _ _).trans ?_
  show zres (zinv none 14 71 5 ls (.int x0 :: .ref a :: st) w) = _
  unfold zinv
  show zres (if zrc none 14 w (.ref a) = true then zcall 14 [.ref a, .int x0] st 71 5 ls w else none) = _
  by_cases hc : zis w a 3
  · rw [if_pos (zrc_is hc (by decide +kernel)), zgd_pos hc]
    exact zq_call hr (Nat.le_of_ble_eq_true rfl) rfl rfl
  · rw [zgd_neg hc, if_neg (fun q => hc (zrc_of q (by decide +kernel)))]
    rfl
theorem e71_8 (ls : List Value) (a : Int32) (st : List Value) (w : zH) : zrun none (71, 8, ls, (.int a :: st), w) = if a = 0 then zrun none (71, 25, ls, st, w) else zrun none (71, 11, ls, st, w) := (zE_ (i := .ifCond .eq 17) (by decide +kernel) _ _ _).trans (zq_if_eq rfl rfl)
theorem e71_11 (v0 v1 v3 : Value) (x : Int32) (st : List Value) (w : zH) : zrun none (71, 11, [v0, v1, .int x, v3], st, w) = zrun none (71, 12, [v0, v1, .int x, v3], (.int x :: st), w) := (zE_ (i := .iload_n 2) (by decide +kernel) _ _ _).trans rfl
theorem e71_12 (ls : List Value) (x0 : Int32) (st : List Value) (w : zH) (hr : zcat st ≤ 8) : zrun none (71, 12, ls, (.int x0 :: st), w) = zcl (zrun none (101, 0, [.int x0], [], w)) (fun r => zrun none (71, 15, ls, r.1.toList ++ st, r.2)) := by
  refine (zE_ (i := .invokestatic 101) (by decide +kernel) _ _ _).trans ?_
  show zres (if (99 : Nat) = 99 ∧ 1 ≤ ((.int x0 :: st) : List Value).length then zcall 101 [.int x0] st 71 12 ls w else none) = _
  rw [if_pos ⟨rfl, by simp⟩]
  exact zq_call hr (Nat.le_of_ble_eq_true rfl) rfl rfl
theorem e71_15 (ls : List Value) (a : Int32) (st : List Value) (w : zH) : zrun none (71, 15, ls, (.int a :: st), w) = if a = 0 then zrun none (71, 25, ls, st, w) else zrun none (71, 18, ls, st, w) := (zE_ (i := .ifCond .eq 10) (by decide +kernel) _ _ _).trans (zq_if_eq rfl rfl)
theorem e71_18 (v0 v1 v2 : Value) (x : Int32) (st : List Value) (w : zH) : zrun none (71, 18, [v0, v1, v2, .int x], st, w) = zrun none (71, 19, [v0, v1, v2, .int x], (.int x :: st), w) := (zE_ (i := .iload_n 3) (by decide +kernel) _ _ _).trans rfl
theorem e71_19 (ls : List Value) (x0 : Int32) (st : List Value) (w : zH) (hr : zcat st ≤ 8) : zrun none (71, 19, ls, (.int x0 :: st), w) = zcl (zrun none (101, 0, [.int x0], [], w)) (fun r => zrun none (71, 22, ls, r.1.toList ++ st, r.2)) := by
  refine (zE_ (i := .invokestatic 101) (by decide +kernel) _ _ _).trans ?_
  show zres (if (99 : Nat) = 99 ∧ 1 ≤ ((.int x0 :: st) : List Value).length then zcall 101 [.int x0] st 71 19 ls w else none) = _
  rw [if_pos ⟨rfl, by simp⟩]
  exact zq_call hr (Nat.le_of_ble_eq_true rfl) rfl rfl
theorem e71_22 (ls : List Value) (a : Int32) (st : List Value) (w : zH) : zrun none (71, 22, ls, (.int a :: st), w) = if a = 0 then zrun none (71, 25, ls, st, w) else zrun none (71, 28, ls, st, w) := (zE_ (i := .ifCond .ne 6) (by decide +kernel) _ _ _).trans (zq_if_ne rfl rfl)
theorem e71_25 (ls st : List Value) (w : zH) : zrun none (71, 25, ls, st, w) = zrun none (71, 27, ls, (.int (-1000001) :: st), w) := (zE_ (i := .bipush (-1000001)) (by decide +kernel) _ _ _).trans rfl
theorem e71_27 (ls : List Value) (x : Int32) (w : zH) : zrun none (71, 27, ls, [.int x], w) = some (some (.int x), w) := by
  refine (zE_ (i := .ireturn) (by decide +kernel) _ _ _).trans ?_
  show zres (if narrow .int (.int x) = .int x then _ else none) = _
  rw [if_pos (show narrow .int (.int x) = .int x from rfl)]
  rfl
theorem e71_28 (v1 v2 v3 : Value) (x : Nat) (st : List Value) (w : zH) : zrun none (71, 28, [.ref x, v1, v2, v3], st, w) = zrun none (71, 29, [.ref x, v1, v2, v3], (.ref x :: st), w) := (zE_ (i := .aload_n 0) (by decide +kernel) _ _ _).trans rfl
theorem e71_29 (ls : List Value) (a : Nat) (st : List Value) (w : zH) : zrun none (71, 29, ls, (.ref a :: st), w) = zo (zf w a 1101) (fun x => zrun none (71, 32, ls, (x :: st), w)) := (zE_ (i := .getfield 1101) (by decide +kernel) _ _ _).trans zq_getf
theorem e71_32 (v0 v2 v3 : Value) (x : Int32) (st : List Value) (w : zH) : zrun none (71, 32, [v0, .int x, v2, v3], st, w) = zrun none (71, 33, [v0, .int x, v2, v3], (.int x :: st), w) := (zE_ (i := .iload_n 1) (by decide +kernel) _ _ _).trans rfl
theorem e71_33 (v0 v1 v3 : Value) (x : Int32) (st : List Value) (w : zH) : zrun none (71, 33, [v0, v1, .int x, v3], st, w) = zrun none (71, 34, [v0, v1, .int x, v3], (.int x :: st), w) := (zE_ (i := .iload_n 2) (by decide +kernel) _ _ _).trans rfl
theorem e71_34 (v0 v1 v2 : Value) (x : Int32) (st : List Value) (w : zH) : zrun none (71, 34, [v0, v1, v2, .int x], st, w) = zrun none (71, 35, [v0, v1, v2, .int x], (.int x :: st), w) := (zE_ (i := .iload_n 3) (by decide +kernel) _ _ _).trans rfl
theorem e71_35 (ls : List Value) (a : Nat) (x0 : Int32) (x1 : Int32) (x2 : Int32) (st : List Value) (w : zH) (hr : zcat st ≤ 8) : zrun none (71, 35, ls, (.int x2 :: .int x1 :: .int x0 :: .ref a :: st), w) = zgd (zis w a 3) (zcl (zrun none (17, 0, [.ref a, .int x0, .int x1, .int x2, zJ, zJ, zJ, zJ], [], w)) (fun r => zrun none (71, 38, ls, r.1.toList ++ st, r.2))) := by
  refine (zE_ (i := .invokevirtual 17) (by decide +kernel) _ _ _).trans ?_
  show zres (zinv none 17 71 35 ls (.int x2 :: .int x1 :: .int x0 :: .ref a :: st) w) = _
  unfold zinv
  show zres (if zrc none 17 w (.ref a) = true then zcall 17 [.ref a, .int x0, .int x1, .int x2] st 71 35 ls w else none) = _
  by_cases hc : zis w a 3
  · rw [if_pos (zrc_is hc (by decide +kernel)), zgd_pos hc]
    exact zq_call hr (Nat.le_of_ble_eq_true rfl) rfl rfl
  · rw [zgd_neg hc, if_neg (fun q => hc (zrc_of q (by decide +kernel)))]
    rfl
theorem e71_38 (ls : List Value) (x : Int32) (w : zH) : zrun none (71, 38, ls, [.int x], w) = some (some (.int x), w) := by
  refine (zE_ (i := .ireturn) (by decide +kernel) _ _ _).trans ?_
  show zres (if narrow .int (.int x) = .int x then _ else none) = _
  rw [if_pos (show narrow .int (.int x) = .int x from rfl)]
  rfl
theorem e72_0 (v1 v2 v3 v4 : Value) (x : Nat) (st : List Value) (w : zH) : zrun none (72, 0, [.ref x, v1, v2, v3, v4], st, w) = zrun none (72, 1, [.ref x, v1, v2, v3, v4], (.ref x :: st), w) := (zE_ (i := .aload_n 0) (by decide +kernel) _ _ _).trans rfl
theorem e72_1 (ls : List Value) (a : Nat) (st : List Value) (w : zH) : zrun none (72, 1, ls, (.ref a :: st), w) = zo (zf w a 1101) (fun x => zrun none (72, 4, ls, (x :: st), w)) := (zE_ (i := .getfield 1101) (by decide +kernel) _ _ _).trans zq_getf
theorem e72_4 (v0 v2 v3 v4 : Value) (x : Int32) (st : List Value) (w : zH) : zrun none (72, 4, [v0, .int x, v2, v3, v4], st, w) = zrun none (72, 5, [v0, .int x, v2, v3, v4], (.int x :: st), w) := (zE_ (i := .iload_n 1) (by decide +kernel) _ _ _).trans rfl
theorem e72_5 (ls : List Value) (a : Nat) (x0 : Int32) (st : List Value) (w : zH) (hr : zcat st ≤ 8) : zrun none (72, 5, ls, (.int x0 :: .ref a :: st), w) = zgd (zis w a 3) (zcl (zrun none (14, 0, [.ref a, .int x0], [], w)) (fun r => zrun none (72, 8, ls, r.1.toList ++ st, r.2))) := by
  refine (zE_ (i := .invokevirtual 14) (by decide +kernel) _ _ _).trans ?_
  show zres (zinv none 14 72 5 ls (.int x0 :: .ref a :: st) w) = _
  unfold zinv
  show zres (if zrc none 14 w (.ref a) = true then zcall 14 [.ref a, .int x0] st 72 5 ls w else none) = _
  by_cases hc : zis w a 3
  · rw [if_pos (zrc_is hc (by decide +kernel)), zgd_pos hc]
    exact zq_call hr (Nat.le_of_ble_eq_true rfl) rfl rfl
  · rw [zgd_neg hc, if_neg (fun q => hc (zrc_of q (by decide +kernel)))]
    rfl
theorem e72_8 (ls : List Value) (a : Int32) (st : List Value) (w : zH) : zrun none (72, 8, ls, (.int a :: st), w) = if a = 0 then zrun none (72, 45, ls, st, w) else zrun none (72, 11, ls, st, w) := (zE_ (i := .ifCond .eq 37) (by decide +kernel) _ _ _).trans (zq_if_eq rfl rfl)
theorem e72_11 (v0 v1 v3 v4 : Value) (x : Int32) (st : List Value) (w : zH) : zrun none (72, 11, [v0, v1, .int x, v3, v4], st, w) = zrun none (72, 12, [v0, v1, .int x, v3, v4], (.int x :: st), w) := (zE_ (i := .iload_n 2) (by decide +kernel) _ _ _).trans rfl
theorem e72_12 (ls st : List Value) (w : zH) : zrun none (72, 12, ls, st, w) = zrun none (72, 13, ls, (.int 0 :: st), w) := (zE_ (i := .iconst 0) (by decide +kernel) _ _ _).trans rfl
theorem e72_13 (ls st : List Value) (w : zH) : zrun none (72, 13, ls, st, w) = zrun none (72, 14, ls, (.int 4 :: st), w) := (zE_ (i := .iconst 4) (by decide +kernel) _ _ _).trans rfl
theorem e72_14 (ls : List Value) (x0 : Int32) (x1 : Int32) (x2 : Int32) (st : List Value) (w : zH) (hr : zcat st ≤ 8) : zrun none (72, 14, ls, (.int x2 :: .int x1 :: .int x0 :: st), w) = zcl (zrun none (100, 0, [.int x0, .int x1, .int x2], [], w)) (fun r => zrun none (72, 17, ls, r.1.toList ++ st, r.2)) := by
  refine (zE_ (i := .invokestatic 100) (by decide +kernel) _ _ _).trans ?_
  show zres (if (99 : Nat) = 99 ∧ 3 ≤ ((.int x2 :: .int x1 :: .int x0 :: st) : List Value).length then zcall 100 [.int x0, .int x1, .int x2] st 72 14 ls w else none) = _
  rw [if_pos ⟨rfl, by simp⟩]
  exact zq_call hr (Nat.le_of_ble_eq_true rfl) rfl rfl
theorem e72_17 (ls : List Value) (a : Int32) (st : List Value) (w : zH) : zrun none (72, 17, ls, (.int a :: st), w) = if a = 0 then zrun none (72, 45, ls, st, w) else zrun none (72, 20, ls, st, w) := (zE_ (i := .ifCond .eq 28) (by decide +kernel) _ _ _).trans (zq_if_eq rfl rfl)
theorem e72_20 (v0 v1 v2 v4 : Value) (x : Int32) (st : List Value) (w : zH) : zrun none (72, 20, [v0, v1, v2, .int x, v4], st, w) = zrun none (72, 21, [v0, v1, v2, .int x, v4], (.int x :: st), w) := (zE_ (i := .iload_n 3) (by decide +kernel) _ _ _).trans rfl
theorem e72_21 (ls st : List Value) (w : zH) : zrun none (72, 21, ls, st, w) = zrun none (72, 24, ls, (.int 1000 :: st), w) := (zE_ (i := .sipush 1000) (by decide +kernel) _ _ _).trans rfl
theorem e72_24 (ls st : List Value) (w : zH) : zrun none (72, 24, ls, st, w) = zrun none (72, 27, ls, (.int 1999 :: st), w) := (zE_ (i := .sipush 1999) (by decide +kernel) _ _ _).trans rfl
theorem e72_27 (ls : List Value) (x0 : Int32) (x1 : Int32) (x2 : Int32) (st : List Value) (w : zH) (hr : zcat st ≤ 8) : zrun none (72, 27, ls, (.int x2 :: .int x1 :: .int x0 :: st), w) = zcl (zrun none (100, 0, [.int x0, .int x1, .int x2], [], w)) (fun r => zrun none (72, 30, ls, r.1.toList ++ st, r.2)) := by
  refine (zE_ (i := .invokestatic 100) (by decide +kernel) _ _ _).trans ?_
  show zres (if (99 : Nat) = 99 ∧ 3 ≤ ((.int x2 :: .int x1 :: .int x0 :: st) : List Value).length then zcall 100 [.int x0, .int x1, .int x2] st 72 27 ls w else none) = _
  rw [if_pos ⟨rfl, by simp⟩]
  exact zq_call hr (Nat.le_of_ble_eq_true rfl) rfl rfl
theorem e72_30 (ls : List Value) (a : Int32) (st : List Value) (w : zH) : zrun none (72, 30, ls, (.int a :: st), w) = if a = 0 then zrun none (72, 45, ls, st, w) else zrun none (72, 33, ls, st, w) := (zE_ (i := .ifCond .eq 15) (by decide +kernel) _ _ _).trans (zq_if_eq rfl rfl)
theorem e72_33 (v0 v1 v2 v3 : Value) (x : Int32) (st : List Value) (w : zH) : zrun none (72, 33, [v0, v1, v2, v3, .int x], st, w) = zrun none (72, 35, [v0, v1, v2, v3, .int x], (.int x :: st), w) := (zE_ (i := .iload 4) (by decide +kernel) _ _ _).trans rfl
theorem e72_35 (ls st : List Value) (w : zH) : zrun none (72, 35, ls, st, w) = zrun none (72, 36, ls, (.int 0 :: st), w) := (zE_ (i := .iconst 0) (by decide +kernel) _ _ _).trans rfl
theorem e72_36 (ls st : List Value) (w : zH) : zrun none (72, 36, ls, st, w) = zrun none (72, 39, ls, (.int 10000 :: st), w) := (zE_ (i := .sipush 10000) (by decide +kernel) _ _ _).trans rfl
theorem e72_39 (ls : List Value) (x0 : Int32) (x1 : Int32) (x2 : Int32) (st : List Value) (w : zH) (hr : zcat st ≤ 8) : zrun none (72, 39, ls, (.int x2 :: .int x1 :: .int x0 :: st), w) = zcl (zrun none (100, 0, [.int x0, .int x1, .int x2], [], w)) (fun r => zrun none (72, 42, ls, r.1.toList ++ st, r.2)) := by
  refine (zE_ (i := .invokestatic 100) (by decide +kernel) _ _ _).trans ?_
  show zres (if (99 : Nat) = 99 ∧ 3 ≤ ((.int x2 :: .int x1 :: .int x0 :: st) : List Value).length then zcall 100 [.int x0, .int x1, .int x2] st 72 39 ls w else none) = _
  rw [if_pos ⟨rfl, by simp⟩]
  exact zq_call hr (Nat.le_of_ble_eq_true rfl) rfl rfl
theorem e72_42 (ls : List Value) (a : Int32) (st : List Value) (w : zH) : zrun none (72, 42, ls, (.int a :: st), w) = if a = 0 then zrun none (72, 45, ls, st, w) else zrun none (72, 48, ls, st, w) := (zE_ (i := .ifCond .ne 6) (by decide +kernel) _ _ _).trans (zq_if_ne rfl rfl)
theorem e72_45 (ls st : List Value) (w : zH) : zrun none (72, 45, ls, st, w) = zrun none (72, 47, ls, (.int (-1000001) :: st), w) := (zE_ (i := .bipush (-1000001)) (by decide +kernel) _ _ _).trans rfl
theorem e72_47 (ls : List Value) (x : Int32) (w : zH) : zrun none (72, 47, ls, [.int x], w) = some (some (.int x), w) := by
  refine (zE_ (i := .ireturn) (by decide +kernel) _ _ _).trans ?_
  show zres (if narrow .int (.int x) = .int x then _ else none) = _
  rw [if_pos (show narrow .int (.int x) = .int x from rfl)]
  rfl
theorem e72_48 (v1 v2 v3 v4 : Value) (x : Nat) (st : List Value) (w : zH) : zrun none (72, 48, [.ref x, v1, v2, v3, v4], st, w) = zrun none (72, 49, [.ref x, v1, v2, v3, v4], (.ref x :: st), w) := (zE_ (i := .aload_n 0) (by decide +kernel) _ _ _).trans rfl
theorem e72_49 (ls : List Value) (a : Nat) (st : List Value) (w : zH) : zrun none (72, 49, ls, (.ref a :: st), w) = zo (zf w a 1103) (fun x => zrun none (72, 52, ls, (x :: st), w)) := (zE_ (i := .getfield 1103) (by decide +kernel) _ _ _).trans zq_getf
theorem e72_52 (ls st : List Value) (w : zH) : zrun none (72, 52, ls, st, w) = zrun none (72, 54, ls, (.int 16 :: st), w) := (zE_ (i := .bipush 16) (by decide +kernel) _ _ _).trans rfl
theorem e72_54 (ls : List Value) (a b : Int32) (st : List Value) (w : zH) : zrun none (72, 54, ls, (.int b :: .int a :: st), w) = if a < b then zrun none (72, 60, ls, st, w) else zrun none (72, 57, ls, st, w) := (zE_ (i := .if_icmp .lt 6) (by decide +kernel) _ _ _).trans (zq_ic_lt rfl rfl)
theorem e72_57 (ls st : List Value) (w : zH) : zrun none (72, 57, ls, st, w) = zrun none (72, 59, ls, (.int (-1000003) :: st), w) := (zE_ (i := .bipush (-1000003)) (by decide +kernel) _ _ _).trans rfl
theorem e72_59 (ls : List Value) (x : Int32) (w : zH) : zrun none (72, 59, ls, [.int x], w) = some (some (.int x), w) := by
  refine (zE_ (i := .ireturn) (by decide +kernel) _ _ _).trans ?_
  show zres (if narrow .int (.int x) = .int x then _ else none) = _
  rw [if_pos (show narrow .int (.int x) = .int x from rfl)]
  rfl
theorem e72_60 (v1 v2 v3 v4 : Value) (x : Nat) (st : List Value) (w : zH) : zrun none (72, 60, [.ref x, v1, v2, v3, v4], st, w) = zrun none (72, 61, [.ref x, v1, v2, v3, v4], (.ref x :: st), w) := (zE_ (i := .aload_n 0) (by decide +kernel) _ _ _).trans rfl
theorem e72_61 (ls : List Value) (a : Nat) (st : List Value) (w : zH) : zrun none (72, 61, ls, (.ref a :: st), w) = zo (zf w a 1102) (fun x => zrun none (72, 64, ls, (x :: st), w)) := (zE_ (i := .getfield 1102) (by decide +kernel) _ _ _).trans zq_getf
theorem e72_64 (v1 v2 v3 v4 : Value) (x : Nat) (st : List Value) (w : zH) : zrun none (72, 64, [.ref x, v1, v2, v3, v4], st, w) = zrun none (72, 65, [.ref x, v1, v2, v3, v4], (.ref x :: st), w) := (zE_ (i := .aload_n 0) (by decide +kernel) _ _ _).trans rfl
theorem e72_65 (ls : List Value) (a : Nat) (st : List Value) (w : zH) : zrun none (72, 65, ls, (.ref a :: st), w) = zo (zf w a 1103) (fun x => zrun none (72, 68, ls, (x :: st), w)) := (zE_ (i := .getfield 1103) (by decide +kernel) _ _ _).trans zq_getf
theorem e72_68 (ls st : List Value) (w : zH) : zrun none (72, 68, ls, st, w) = zgd (w.length + 1 < zX) (zrun none (72, 71, ls, (.ref w.length :: st), w ++ [(7, [.int 0, .int 0, .int 0, .int 0])])) := by
  refine (zE_ (i := .new 7) (by decide +kernel) _ _ _).trans ?_
  simp only [zI]
  rw [if_pos (by decide)]
  unfold znw
  by_cases h : w.length + 1 < zX
  · rw [if_pos h, zgd_pos h]
    rfl
  · rw [if_neg h, zgd_neg h]
    rfl
theorem e72_71 (ls : List Value) (x : Int32) (st : List Value) (w : zH) : zrun none (72, 71, ls, (.int x :: st), w) = zrun none (72, 72, ls, (.int x :: .int x :: st), w) := (zE_ (i := .dup) (by decide +kernel) _ _ _).trans rfl
theorem e72_71r (ls : List Value) (x : Nat) (st : List Value) (w : zH) : zrun none (72, 71, ls, (.ref x :: st), w) = zrun none (72, 72, ls, (.ref x :: .ref x :: st), w) := (zE_ (i := .dup) (by decide +kernel) _ _ _).trans rfl
theorem e72_72 (v0 v2 v3 v4 : Value) (x : Int32) (st : List Value) (w : zH) : zrun none (72, 72, [v0, .int x, v2, v3, v4], st, w) = zrun none (72, 73, [v0, .int x, v2, v3, v4], (.int x :: st), w) := (zE_ (i := .iload_n 1) (by decide +kernel) _ _ _).trans rfl
theorem e72_73 (v0 v1 v3 v4 : Value) (x : Int32) (st : List Value) (w : zH) : zrun none (72, 73, [v0, v1, .int x, v3, v4], st, w) = zrun none (72, 74, [v0, v1, .int x, v3, v4], (.int x :: st), w) := (zE_ (i := .iload_n 2) (by decide +kernel) _ _ _).trans rfl
theorem e72_74 (v0 v1 v2 v4 : Value) (x : Int32) (st : List Value) (w : zH) : zrun none (72, 74, [v0, v1, v2, .int x, v4], st, w) = zrun none (72, 75, [v0, v1, v2, .int x, v4], (.int x :: st), w) := (zE_ (i := .iload_n 3) (by decide +kernel) _ _ _).trans rfl
theorem e72_75 (v0 v1 v2 v3 : Value) (x : Int32) (st : List Value) (w : zH) : zrun none (72, 75, [v0, v1, v2, v3, .int x], st, w) = zrun none (72, 77, [v0, v1, v2, v3, .int x], (.int x :: st), w) := (zE_ (i := .iload 4) (by decide +kernel) _ _ _).trans rfl
theorem e72_77 (ls : List Value) (a : Nat) (x0 : Int32) (x1 : Int32) (x2 : Int32) (x3 : Int32) (st : List Value) (w : zH) (hr : zcat st ≤ 8) : zrun none (72, 77, ls, (.int x3 :: .int x2 :: .int x1 :: .int x0 :: .ref a :: st), w) = zgd (zis w a 7) (zcl (zrun none (32, 0, [.ref a, .int x0, .int x1, .int x2, .int x3], [], w)) (fun r => zrun none (72, 80, ls, r.1.toList ++ st, r.2))) := by
  refine (zE_ (i := .invokespecial 32) (by decide +kernel) _ _ _).trans ?_
  show zres (zinv none 32 72 77 ls (.int x3 :: .int x2 :: .int x1 :: .int x0 :: .ref a :: st) w) = _
  unfold zinv
  show zres (if zrc none 32 w (.ref a) = true then zcall 32 [.ref a, .int x0, .int x1, .int x2, .int x3] st 72 77 ls w else none) = _
  by_cases hc : zis w a 7
  · rw [if_pos (zrc_is hc (by decide +kernel)), zgd_pos hc]
    exact zq_call hr (Nat.le_of_ble_eq_true rfl) rfl rfl
  · rw [zgd_neg hc, if_neg (fun q => hc (zrc_of q (by decide +kernel)))]
    rfl
theorem e72_80 (ls : List Value) (v : Value) (j : Int32) (a : Nat) (st : List Value) (w : zH) : zrun none (72, 80, ls, (v :: .int j :: .ref a :: st), w) = zgd (zaq w a j v) (zrun none (72, 81, ls, st, zas w a j v)) := by
  refine (zE_ (i := .aastore) (by decide +kernel) _ _ _).trans ?_
  by_cases hg : zaq w a j v
  · rw [zgd_pos hg]
    obtain ⟨k, h1, h2⟩ := hg
    exact zq_aast h1 h2
  · rw [zgd_neg hg]
    exact zq_aast_no hg
theorem e72_81 (v1 v2 v3 v4 : Value) (x : Nat) (st : List Value) (w : zH) : zrun none (72, 81, [.ref x, v1, v2, v3, v4], st, w) = zrun none (72, 82, [.ref x, v1, v2, v3, v4], (.ref x :: st), w) := (zE_ (i := .aload_n 0) (by decide +kernel) _ _ _).trans rfl
theorem e72_82 (ls : List Value) (x : Int32) (st : List Value) (w : zH) : zrun none (72, 82, ls, (.int x :: st), w) = zrun none (72, 83, ls, (.int x :: .int x :: st), w) := (zE_ (i := .dup) (by decide +kernel) _ _ _).trans rfl
theorem e72_82r (ls : List Value) (x : Nat) (st : List Value) (w : zH) : zrun none (72, 82, ls, (.ref x :: st), w) = zrun none (72, 83, ls, (.ref x :: .ref x :: st), w) := (zE_ (i := .dup) (by decide +kernel) _ _ _).trans rfl
theorem e72_83 (ls : List Value) (a : Nat) (st : List Value) (w : zH) : zrun none (72, 83, ls, (.ref a :: st), w) = zo (zf w a 1103) (fun x => zrun none (72, 86, ls, (x :: st), w)) := (zE_ (i := .getfield 1103) (by decide +kernel) _ _ _).trans zq_getf
theorem e72_86 (ls : List Value) (x : Int32) (a : Nat) (st : List Value) (w : zH) : zrun none (72, 86, ls, (.int x :: .ref a :: st), w) = zrun none (72, 87, ls, (.int x :: .ref a :: .int x :: st), w) := (zE_ (i := .dup_x1) (by decide +kernel) _ _ _).trans rfl
theorem e72_87 (ls st : List Value) (w : zH) : zrun none (72, 87, ls, st, w) = zrun none (72, 88, ls, (.int 1 :: st), w) := (zE_ (i := .iconst 1) (by decide +kernel) _ _ _).trans rfl
theorem e72_88 (ls : List Value) (a b : Int32) (st : List Value) (w : zH) : zrun none (72, 88, ls, (.int b :: .int a :: st), w) = zrun none (72, 89, ls, (.int (a + b) :: st), w) := (zE_ (i := .iadd) (by decide +kernel) _ _ _).trans rfl
theorem e72_89 (ls : List Value) (x : Int32) (a : Nat) (st : List Value) (w : zH) : zrun none (72, 89, ls, (.int x :: .ref a :: st), w) = zgd (a < zX ∧ (zf w a 1103).isSome = true) (zrun none (72, 92, ls, st, zpf w a 1103 (.int x))) := by
  refine (zE_ (i := .putfield 1103) (by decide +kernel) _ _ _).trans ?_
  by_cases hg : a < zX ∧ (zf w a 1103).isSome = true
  · rw [zgd_pos hg]
    obtain ⟨ha, h⟩ := hg
    exact zq_putf ha h rfl rfl
  · rw [zgd_neg hg]
    exact zq_putf_no (fun h1 h2 h3 => hg ⟨h1, h2⟩)
theorem e72_92 (ls : List Value) (x : Int32) (w : zH) : zrun none (72, 92, ls, [.int x], w) = some (some (.int x), w) := by
  refine (zE_ (i := .ireturn) (by decide +kernel) _ _ _).trans ?_
  show zres (if narrow .int (.int x) = .int x then _ else none) = _
  rw [if_pos (show narrow .int (.int x) = .int x from rfl)]
  rfl
theorem e73_0 (v1 v2 v3 : Value) (x : Nat) (st : List Value) (w : zH) : zrun none (73, 0, [.ref x, v1, v2, v3], st, w) = zrun none (73, 1, [.ref x, v1, v2, v3], (.ref x :: st), w) := (zE_ (i := .aload_n 0) (by decide +kernel) _ _ _).trans rfl
theorem e73_1 (v0 v2 v3 : Value) (x : Int32) (st : List Value) (w : zH) : zrun none (73, 1, [v0, .int x, v2, v3], st, w) = zrun none (73, 2, [v0, .int x, v2, v3], (.int x :: st), w) := (zE_ (i := .iload_n 1) (by decide +kernel) _ _ _).trans rfl
theorem e73_2 (ls : List Value) (a : Nat) (x0 : Int32) (st : List Value) (w : zH) (hr : zcat st ≤ 8) : zrun none (73, 2, ls, (.int x0 :: .ref a :: st), w) = zgd (zis w a 11) (zcl (zrun none (111, 0, [.ref a, .int x0], [], w)) (fun r => zrun none (73, 5, ls, r.1.toList ++ st, r.2))) := by
  refine (zE_ (i := .invokevirtual 111) (by decide +kernel) _ _ _).trans ?_
  show zres (zinv none 111 73 2 ls (.int x0 :: .ref a :: st) w) = _
  unfold zinv
  show zres (if zrc none 111 w (.ref a) = true then zcall 111 [.ref a, .int x0] st 73 2 ls w else none) = _
  by_cases hc : zis w a 11
  · rw [if_pos (zrc_is hc (by decide +kernel)), zgd_pos hc]
    exact zq_call hr (Nat.le_of_ble_eq_true rfl) rfl rfl
  · rw [zgd_neg hc, if_neg (fun q => hc (zrc_of q (by decide +kernel)))]
    rfl
theorem e73_5 (v0 v1 v2 v3 : Value) (x : Nat) (st : List Value) (w : zH) (h : v2.category = 1) : zrun none (73, 5, [v0, v1, v2, v3], (.ref x :: st), w) = zrun none (73, 6, [v0, v1, v2, .ref x], st, w) := by
  refine (zE_ (i := .astore_n 3) (by decide +kernel) _ _ _).trans ?_
  have hz : zfree [v0, v1, v2, v3] 3 = true := by show decide (v2.category = 1) = true; exact decide_eq_true h
  show zres (zst zref 3 1 73 5 [v0, v1, v2, v3] (.ref x :: st) w) = _
  unfold zst
  dsimp only
  rw [if_pos ⟨rfl, Nat.le_of_ble_eq_true rfl, hz⟩]
  rfl
theorem e73_5n (v0 v1 v2 v3 : Value) (st : List Value) (w : zH) (h : v2.category = 1) : zrun none (73, 5, [v0, v1, v2, v3], (.null :: st), w) = zrun none (73, 6, [v0, v1, v2, .null], st, w) := by
  refine (zE_ (i := .astore_n 3) (by decide +kernel) _ _ _).trans ?_
  have hz : zfree [v0, v1, v2, v3] 3 = true := by show decide (v2.category = 1) = true; exact decide_eq_true h
  show zres (zst zref 3 1 73 5 [v0, v1, v2, v3] (.null :: st) w) = _
  unfold zst
  dsimp only
  rw [if_pos ⟨rfl, Nat.le_of_ble_eq_true rfl, hz⟩]
  rfl
theorem e73_6 (v0 v1 v2 : Value) (x : Nat) (st : List Value) (w : zH) : zrun none (73, 6, [v0, v1, v2, .ref x], st, w) = zrun none (73, 7, [v0, v1, v2, .ref x], (.ref x :: st), w) := (zE_ (i := .aload_n 3) (by decide +kernel) _ _ _).trans rfl
theorem e73_6n (v0 v1 v2 : Value) (st : List Value) (w : zH) : zrun none (73, 6, [v0, v1, v2, .null], st, w) = zrun none (73, 7, [v0, v1, v2, .null], (.null :: st), w) := (zE_ (i := .aload_n 3) (by decide +kernel) _ _ _).trans rfl
theorem e73_7n (ls st : List Value) (w : zH) : zrun none (73, 7, ls, (.null :: st), w) = zrun none (73, 10, ls, st, w) := (zE_ (i := .ifnonnull 6) (by decide +kernel) _ _ _).trans rfl
theorem e73_7 (ls : List Value) (a : Nat) (st : List Value) (w : zH) (h : a < zX) : zrun none (73, 7, ls, (.ref a :: st), w) = zrun none (73, 13, ls, st, w) := by
  refine (zE_ (i := .ifnonnull 6) (by decide +kernel) _ _ _).trans ?_
  simp only [zI, if_pos h]
  rfl
theorem e73_10 (ls st : List Value) (w : zH) : zrun none (73, 10, ls, st, w) = zrun none (73, 12, ls, (.int (-1000001) :: st), w) := (zE_ (i := .bipush (-1000001)) (by decide +kernel) _ _ _).trans rfl
theorem e73_12 (ls : List Value) (x : Int32) (w : zH) : zrun none (73, 12, ls, [.int x], w) = some (some (.int x), w) := by
  refine (zE_ (i := .ireturn) (by decide +kernel) _ _ _).trans ?_
  show zres (if narrow .int (.int x) = .int x then _ else none) = _
  rw [if_pos (show narrow .int (.int x) = .int x from rfl)]
  rfl
theorem e73_13 (v0 v1 v3 : Value) (x : Int32) (st : List Value) (w : zH) : zrun none (73, 13, [v0, v1, .int x, v3], st, w) = zrun none (73, 14, [v0, v1, .int x, v3], (.int x :: st), w) := (zE_ (i := .iload_n 2) (by decide +kernel) _ _ _).trans rfl
theorem e73_14 (ls : List Value) (a : Int32) (st : List Value) (w : zH) : zrun none (73, 14, ls, (.int a :: st), w) = if a = 0 then zrun none (73, 52, ls, st, w) else if a = 1 then zrun none (73, 57, ls, st, w) else if a = 2 then zrun none (73, 62, ls, st, w) else if a = 3 then zrun none (73, 67, ls, st, w) else if a = 4 then zrun none (73, 72, ls, st, w) else if a = 5 then zrun none (73, 81, ls, st, w) else zrun none (73, 91, ls, st, w) := by
  refine (zE_ (i := .tableswitch 77 0 5 #[38, 43, 48, 53, 58, 67]) (by decide +kernel) _ _ _).trans ?_
  by_cases h1000 : a = 0
  · subst h1000
    rfl
  rw [if_neg h1000]
  by_cases h1001 : a = 1
  · subst h1001
    rfl
  rw [if_neg h1001]
  by_cases h1002 : a = 2
  · subst h1002
    rfl
  rw [if_neg h1002]
  by_cases h1003 : a = 3
  · subst h1003
    rfl
  rw [if_neg h1003]
  by_cases h1004 : a = 4
  · subst h1004
    rfl
  rw [if_neg h1004]
  by_cases h1005 : a = 5
  · subst h1005
    rfl
  rw [if_neg h1005]
  have hr : a.toInt < 0 ∨ 5 < a.toInt := by
    by_cases q1 : a.toInt < 0
    · exact Or.inl q1
    by_cases q2 : 5 < a.toInt
    · exact Or.inr q2
    exfalso
    have k1000 := zne32 h1000
    have k1001 := zne32 h1001
    have k1002 := zne32 h1002
    have k1003 := zne32 h1003
    have k1004 := zne32 h1004
    have k1005 := zne32 h1005
    have j1000 : ((0 : Int32)).toInt = 0 := by decide
    rw [j1000] at k1000
    have j1001 : ((1 : Int32)).toInt = 1 := by decide
    rw [j1001] at k1001
    have j1002 : ((2 : Int32)).toInt = 2 := by decide
    rw [j1002] at k1002
    have j1003 : ((3 : Int32)).toInt = 3 := by decide
    rw [j1003] at k1003
    have j1004 : ((4 : Int32)).toInt = 4 := by decide
    rw [j1004] at k1004
    have j1005 : ((5 : Int32)).toInt = 5 := by decide
    rw [j1005] at k1005
    omega
  simp only [zI, if_pos hr]
  rfl
theorem e73_52 (v0 v1 v2 : Value) (x : Nat) (st : List Value) (w : zH) : zrun none (73, 52, [v0, v1, v2, .ref x], st, w) = zrun none (73, 53, [v0, v1, v2, .ref x], (.ref x :: st), w) := (zE_ (i := .aload_n 3) (by decide +kernel) _ _ _).trans rfl
theorem e73_52n (v0 v1 v2 : Value) (st : List Value) (w : zH) : zrun none (73, 52, [v0, v1, v2, .null], st, w) = zrun none (73, 53, [v0, v1, v2, .null], (.null :: st), w) := (zE_ (i := .aload_n 3) (by decide +kernel) _ _ _).trans rfl
theorem e73_53 (ls : List Value) (a : Nat) (st : List Value) (w : zH) : zrun none (73, 53, ls, (.ref a :: st), w) = zo (zf w a 700) (fun x => zrun none (73, 56, ls, (x :: st), w)) := (zE_ (i := .getfield 700) (by decide +kernel) _ _ _).trans zq_getf
theorem e73_56 (ls : List Value) (x : Int32) (w : zH) : zrun none (73, 56, ls, [.int x], w) = some (some (.int x), w) := by
  refine (zE_ (i := .ireturn) (by decide +kernel) _ _ _).trans ?_
  show zres (if narrow .int (.int x) = .int x then _ else none) = _
  rw [if_pos (show narrow .int (.int x) = .int x from rfl)]
  rfl
theorem e73_57 (v0 v1 v2 : Value) (x : Nat) (st : List Value) (w : zH) : zrun none (73, 57, [v0, v1, v2, .ref x], st, w) = zrun none (73, 58, [v0, v1, v2, .ref x], (.ref x :: st), w) := (zE_ (i := .aload_n 3) (by decide +kernel) _ _ _).trans rfl
theorem e73_57n (v0 v1 v2 : Value) (st : List Value) (w : zH) : zrun none (73, 57, [v0, v1, v2, .null], st, w) = zrun none (73, 58, [v0, v1, v2, .null], (.null :: st), w) := (zE_ (i := .aload_n 3) (by decide +kernel) _ _ _).trans rfl
theorem e73_58 (ls : List Value) (a : Nat) (st : List Value) (w : zH) : zrun none (73, 58, ls, (.ref a :: st), w) = zo (zf w a 701) (fun x => zrun none (73, 61, ls, (x :: st), w)) := (zE_ (i := .getfield 701) (by decide +kernel) _ _ _).trans zq_getf
theorem e73_61 (ls : List Value) (x : Int32) (w : zH) : zrun none (73, 61, ls, [.int x], w) = some (some (.int x), w) := by
  refine (zE_ (i := .ireturn) (by decide +kernel) _ _ _).trans ?_
  show zres (if narrow .int (.int x) = .int x then _ else none) = _
  rw [if_pos (show narrow .int (.int x) = .int x from rfl)]
  rfl
theorem e73_62 (v0 v1 v2 : Value) (x : Nat) (st : List Value) (w : zH) : zrun none (73, 62, [v0, v1, v2, .ref x], st, w) = zrun none (73, 63, [v0, v1, v2, .ref x], (.ref x :: st), w) := (zE_ (i := .aload_n 3) (by decide +kernel) _ _ _).trans rfl
theorem e73_62n (v0 v1 v2 : Value) (st : List Value) (w : zH) : zrun none (73, 62, [v0, v1, v2, .null], st, w) = zrun none (73, 63, [v0, v1, v2, .null], (.null :: st), w) := (zE_ (i := .aload_n 3) (by decide +kernel) _ _ _).trans rfl
theorem e73_63 (ls : List Value) (a : Nat) (st : List Value) (w : zH) : zrun none (73, 63, ls, (.ref a :: st), w) = zo (zf w a 702) (fun x => zrun none (73, 66, ls, (x :: st), w)) := (zE_ (i := .getfield 702) (by decide +kernel) _ _ _).trans zq_getf
theorem e73_66 (ls : List Value) (x : Int32) (w : zH) : zrun none (73, 66, ls, [.int x], w) = some (some (.int x), w) := by
  refine (zE_ (i := .ireturn) (by decide +kernel) _ _ _).trans ?_
  show zres (if narrow .int (.int x) = .int x then _ else none) = _
  rw [if_pos (show narrow .int (.int x) = .int x from rfl)]
  rfl
theorem e73_67 (v0 v1 v2 : Value) (x : Nat) (st : List Value) (w : zH) : zrun none (73, 67, [v0, v1, v2, .ref x], st, w) = zrun none (73, 68, [v0, v1, v2, .ref x], (.ref x :: st), w) := (zE_ (i := .aload_n 3) (by decide +kernel) _ _ _).trans rfl
theorem e73_67n (v0 v1 v2 : Value) (st : List Value) (w : zH) : zrun none (73, 67, [v0, v1, v2, .null], st, w) = zrun none (73, 68, [v0, v1, v2, .null], (.null :: st), w) := (zE_ (i := .aload_n 3) (by decide +kernel) _ _ _).trans rfl
theorem e73_68 (ls : List Value) (a : Nat) (st : List Value) (w : zH) : zrun none (73, 68, ls, (.ref a :: st), w) = zo (zf w a 703) (fun x => zrun none (73, 71, ls, (x :: st), w)) := (zE_ (i := .getfield 703) (by decide +kernel) _ _ _).trans zq_getf
theorem e73_71 (ls : List Value) (x : Int32) (w : zH) : zrun none (73, 71, ls, [.int x], w) = some (some (.int x), w) := by
  refine (zE_ (i := .ireturn) (by decide +kernel) _ _ _).trans ?_
  show zres (if narrow .int (.int x) = .int x then _ else none) = _
  rw [if_pos (show narrow .int (.int x) = .int x from rfl)]
  rfl
theorem e73_72 (v0 v1 v2 : Value) (x : Nat) (st : List Value) (w : zH) : zrun none (73, 72, [v0, v1, v2, .ref x], st, w) = zrun none (73, 73, [v0, v1, v2, .ref x], (.ref x :: st), w) := (zE_ (i := .aload_n 3) (by decide +kernel) _ _ _).trans rfl
theorem e73_72n (v0 v1 v2 : Value) (st : List Value) (w : zH) : zrun none (73, 72, [v0, v1, v2, .null], st, w) = zrun none (73, 73, [v0, v1, v2, .null], (.null :: st), w) := (zE_ (i := .aload_n 3) (by decide +kernel) _ _ _).trans rfl
theorem e73_73 (v1 v2 v3 : Value) (x : Nat) (st : List Value) (w : zH) : zrun none (73, 73, [.ref x, v1, v2, v3], st, w) = zrun none (73, 74, [.ref x, v1, v2, v3], (.ref x :: st), w) := (zE_ (i := .aload_n 0) (by decide +kernel) _ _ _).trans rfl
theorem e73_74 (ls : List Value) (a : Nat) (st : List Value) (w : zH) : zrun none (73, 74, ls, (.ref a :: st), w) = zo (zf w a 1116) (fun x => zrun none (73, 77, ls, (x :: st), w)) := (zE_ (i := .getfield 1116) (by decide +kernel) _ _ _).trans zq_getf
theorem e73_77 (ls : List Value) (a : Nat) (x0 : Int32) (st : List Value) (w : zH) (hr : zcat st ≤ 8) : zrun none (73, 77, ls, (.int x0 :: .ref a :: st), w) = zgd (zis w a 7) (zcl (zrun none (33, 0, [.ref a, .int x0], [], w)) (fun r => zrun none (73, 80, ls, r.1.toList ++ st, r.2))) := by
  refine (zE_ (i := .invokevirtual 33) (by decide +kernel) _ _ _).trans ?_
  show zres (zinv none 33 73 77 ls (.int x0 :: .ref a :: st) w) = _
  unfold zinv
  show zres (if zrc none 33 w (.ref a) = true then zcall 33 [.ref a, .int x0] st 73 77 ls w else none) = _
  by_cases hc : zis w a 7
  · rw [if_pos (zrc_is hc (by decide +kernel)), zgd_pos hc]
    exact zq_call hr (Nat.le_of_ble_eq_true rfl) rfl rfl
  · rw [zgd_neg hc, if_neg (fun q => hc (zrc_of q (by decide +kernel)))]
    rfl
theorem e73_80 (ls : List Value) (x : Int32) (w : zH) : zrun none (73, 80, ls, [.int x], w) = some (some (.int x), w) := by
  refine (zE_ (i := .ireturn) (by decide +kernel) _ _ _).trans ?_
  show zres (if narrow .int (.int x) = .int x then _ else none) = _
  rw [if_pos (show narrow .int (.int x) = .int x from rfl)]
  rfl
theorem e73_81 (v1 v2 v3 : Value) (x : Nat) (st : List Value) (w : zH) : zrun none (73, 81, [.ref x, v1, v2, v3], st, w) = zrun none (73, 82, [.ref x, v1, v2, v3], (.ref x :: st), w) := (zE_ (i := .aload_n 0) (by decide +kernel) _ _ _).trans rfl
theorem e73_82 (v0 v1 v2 : Value) (x : Nat) (st : List Value) (w : zH) : zrun none (73, 82, [v0, v1, v2, .ref x], st, w) = zrun none (73, 83, [v0, v1, v2, .ref x], (.ref x :: st), w) := (zE_ (i := .aload_n 3) (by decide +kernel) _ _ _).trans rfl
theorem e73_82n (v0 v1 v2 : Value) (st : List Value) (w : zH) : zrun none (73, 82, [v0, v1, v2, .null], st, w) = zrun none (73, 83, [v0, v1, v2, .null], (.null :: st), w) := (zE_ (i := .aload_n 3) (by decide +kernel) _ _ _).trans rfl
theorem e73_83 (v1 v2 v3 : Value) (x : Nat) (st : List Value) (w : zH) : zrun none (73, 83, [.ref x, v1, v2, v3], st, w) = zrun none (73, 84, [.ref x, v1, v2, v3], (.ref x :: st), w) := (zE_ (i := .aload_n 0) (by decide +kernel) _ _ _).trans rfl
theorem e73_84 (ls : List Value) (a : Nat) (st : List Value) (w : zH) : zrun none (73, 84, ls, (.ref a :: st), w) = zo (zf w a 1116) (fun x => zrun none (73, 87, ls, (x :: st), w)) := (zE_ (i := .getfield 1116) (by decide +kernel) _ _ _).trans zq_getf
theorem e73_87 (ls : List Value) (a : Nat) (x0 : Nat) (x1 : Int32) (st : List Value) (w : zH) (hr : zcat st ≤ 8) : zrun none (73, 87, ls, (.int x1 :: .ref x0 :: .ref a :: st), w) = zgd (zis w a 11) (zcl (zrun none (116, 0, [.ref a, .ref x0, .int x1], [], w)) (fun r => zrun none (73, 90, ls, r.1.toList ++ st, r.2))) := by
  refine (zE_ (i := .invokevirtual 116) (by decide +kernel) _ _ _).trans ?_
  show zres (zinv none 116 73 87 ls (.int x1 :: .ref x0 :: .ref a :: st) w) = _
  unfold zinv
  show zres (if zrc none 116 w (.ref a) = true then zcall 116 [.ref a, .ref x0, .int x1] st 73 87 ls w else none) = _
  by_cases hc : zis w a 11
  · rw [if_pos (zrc_is hc (by decide +kernel)), zgd_pos hc]
    exact zq_call hr (Nat.le_of_ble_eq_true rfl) rfl rfl
  · rw [zgd_neg hc, if_neg (fun q => hc (zrc_of q (by decide +kernel)))]
    rfl
theorem e73_90 (ls : List Value) (x : Int32) (w : zH) : zrun none (73, 90, ls, [.int x], w) = some (some (.int x), w) := by
  refine (zE_ (i := .ireturn) (by decide +kernel) _ _ _).trans ?_
  show zres (if narrow .int (.int x) = .int x then _ else none) = _
  rw [if_pos (show narrow .int (.int x) = .int x from rfl)]
  rfl
theorem e73_91 (ls st : List Value) (w : zH) : zrun none (73, 91, ls, st, w) = zrun none (73, 93, ls, (.int (-1000001) :: st), w) := (zE_ (i := .bipush (-1000001)) (by decide +kernel) _ _ _).trans rfl
theorem e73_93 (ls : List Value) (x : Int32) (w : zH) : zrun none (73, 93, ls, [.int x], w) = some (some (.int x), w) := by
  refine (zE_ (i := .ireturn) (by decide +kernel) _ _ _).trans ?_
  show zres (if narrow .int (.int x) = .int x then _ else none) = _
  rw [if_pos (show narrow .int (.int x) = .int x from rfl)]
  rfl
theorem e74_0 (v0 v1 v2 : Value) (x : Int32) (st : List Value) (w : zH) : zrun none (74, 0, [v0, v1, v2, .int x], st, w) = zrun none (74, 1, [v0, v1, v2, .int x], (.int x :: st), w) := (zE_ (i := .iload_n 3) (by decide +kernel) _ _ _).trans rfl
theorem e74_1 (ls st : List Value) (w : zH) : zrun none (74, 1, ls, st, w) = zrun none (74, 2, ls, (.int 1 :: st), w) := (zE_ (i := .iconst 1) (by decide +kernel) _ _ _).trans rfl
theorem e74_2 (ls st : List Value) (w : zH) : zrun none (74, 2, ls, st, w) = zrun none (74, 4, ls, (.int 8 :: st), w) := (zE_ (i := .bipush 8) (by decide +kernel) _ _ _).trans rfl
theorem e74_4 (ls : List Value) (x0 : Int32) (x1 : Int32) (x2 : Int32) (st : List Value) (w : zH) (hr : zcat st ≤ 8) : zrun none (74, 4, ls, (.int x2 :: .int x1 :: .int x0 :: st), w) = zcl (zrun none (100, 0, [.int x0, .int x1, .int x2], [], w)) (fun r => zrun none (74, 7, ls, r.1.toList ++ st, r.2)) := by
  refine (zE_ (i := .invokestatic 100) (by decide +kernel) _ _ _).trans ?_
  show zres (if (99 : Nat) = 99 ∧ 3 ≤ ((.int x2 :: .int x1 :: .int x0 :: st) : List Value).length then zcall 100 [.int x0, .int x1, .int x2] st 74 4 ls w else none) = _
  rw [if_pos ⟨rfl, by simp⟩]
  exact zq_call hr (Nat.le_of_ble_eq_true rfl) rfl rfl
theorem e74_7 (ls : List Value) (a : Int32) (st : List Value) (w : zH) : zrun none (74, 7, ls, (.int a :: st), w) = if a = 0 then zrun none (74, 10, ls, st, w) else zrun none (74, 13, ls, st, w) := (zE_ (i := .ifCond .ne 6) (by decide +kernel) _ _ _).trans (zq_if_ne rfl rfl)
theorem e74_10 (ls st : List Value) (w : zH) : zrun none (74, 10, ls, st, w) = zrun none (74, 12, ls, (.int (-1000001) :: st), w) := (zE_ (i := .bipush (-1000001)) (by decide +kernel) _ _ _).trans rfl
theorem e74_12 (ls : List Value) (x : Int32) (w : zH) : zrun none (74, 12, ls, [.int x], w) = some (some (.int x), w) := by
  refine (zE_ (i := .ireturn) (by decide +kernel) _ _ _).trans ?_
  show zres (if narrow .int (.int x) = .int x then _ else none) = _
  rw [if_pos (show narrow .int (.int x) = .int x from rfl)]
  rfl
theorem e74_13 (v1 v2 v3 : Value) (x : Nat) (st : List Value) (w : zH) : zrun none (74, 13, [.ref x, v1, v2, v3], st, w) = zrun none (74, 14, [.ref x, v1, v2, v3], (.ref x :: st), w) := (zE_ (i := .aload_n 0) (by decide +kernel) _ _ _).trans rfl
theorem e74_14 (ls : List Value) (a : Nat) (st : List Value) (w : zH) : zrun none (74, 14, ls, (.ref a :: st), w) = zo (zf w a 1104) (fun x => zrun none (74, 17, ls, (x :: st), w)) := (zE_ (i := .getfield 1104) (by decide +kernel) _ _ _).trans zq_getf
theorem e74_17 (v0 v2 v3 : Value) (x : Int64) (st : List Value) (w : zH) : zrun none (74, 17, [v0, .long x, v2, v3], st, w) = zrun none (74, 18, [v0, .long x, v2, v3], (.long x :: st), w) := (zE_ (i := .lload_n 1) (by decide +kernel) _ _ _).trans rfl
theorem e74_18 (v0 v1 v2 : Value) (x : Int32) (st : List Value) (w : zH) : zrun none (74, 18, [v0, v1, v2, .int x], st, w) = zrun none (74, 19, [v0, v1, v2, .int x], (.int x :: st), w) := (zE_ (i := .iload_n 3) (by decide +kernel) _ _ _).trans rfl
theorem e74_19 (ls : List Value) (a : Nat) (x0 : Int64) (x1 : Int32) (st : List Value) (w : zH) (hr : zcat st ≤ 8) : zrun none (74, 19, ls, (.int x1 :: .long x0 :: .ref a :: st), w) = zgd (zis w a 9) (zcl (zrun none (45, 0, [.ref a, .long x0, zJ, .int x1, zJ], [], w)) (fun r => zrun none (74, 22, ls, r.1.toList ++ st, r.2))) := by
  refine (zE_ (i := .invokevirtual 45) (by decide +kernel) _ _ _).trans ?_
  show zres (zinv none 45 74 19 ls (.int x1 :: .long x0 :: .ref a :: st) w) = _
  unfold zinv
  show zres (if zrc none 45 w (.ref a) = true then zcall 45 [.ref a, .long x0, .int x1] st 74 19 ls w else none) = _
  by_cases hc : zis w a 9
  · rw [if_pos (zrc_is hc (by decide +kernel)), zgd_pos hc]
    exact zq_call hr (Nat.le_of_ble_eq_true rfl) rfl rfl
  · rw [zgd_neg hc, if_neg (fun q => hc (zrc_of q (by decide +kernel)))]
    rfl
theorem e74_22 (ls : List Value) (x : Int32) (w : zH) : zrun none (74, 22, ls, [.int x], w) = some (some (.int x), w) := by
  refine (zE_ (i := .ireturn) (by decide +kernel) _ _ _).trans ?_
  show zres (if narrow .int (.int x) = .int x then _ else none) = _
  rw [if_pos (show narrow .int (.int x) = .int x from rfl)]
  rfl
theorem e75_0 (v1 v2 : Value) (x : Nat) (st : List Value) (w : zH) : zrun none (75, 0, [.ref x, v1, v2], st, w) = zrun none (75, 1, [.ref x, v1, v2], (.ref x :: st), w) := (zE_ (i := .aload_n 0) (by decide +kernel) _ _ _).trans rfl
theorem e75_1 (ls : List Value) (a : Nat) (st : List Value) (w : zH) (hr : zcat st ≤ 8) : zrun none (75, 1, ls, (.ref a :: st), w) = zgd (zis w a 11) (zcl (zrun none (121, 0, [.ref a, zJ, zJ], [], w)) (fun r => zrun none (75, 4, ls, r.1.toList ++ st, r.2))) := by
  refine (zE_ (i := .invokevirtual 121) (by decide +kernel) _ _ _).trans ?_
  show zres (zinv none 121 75 1 ls (.ref a :: st) w) = _
  unfold zinv
  show zres (if zrc none 121 w (.ref a) = true then zcall 121 [.ref a] st 75 1 ls w else none) = _
  by_cases hc : zis w a 11
  · rw [if_pos (zrc_is hc (by decide +kernel)), zgd_pos hc]
    exact zq_call hr (Nat.le_of_ble_eq_true rfl) rfl rfl
  · rw [zgd_neg hc, if_neg (fun q => hc (zrc_of q (by decide +kernel)))]
    rfl
theorem e75_4 (v0 v1 v2 : Value) (x : Int32) (st : List Value) (w : zH) (h : v0.category = 1) : zrun none (75, 4, [v0, v1, v2], (.int x :: st), w) = zrun none (75, 5, [v0, .int x, v2], st, w) := by
  refine (zE_ (i := .istore_n 1) (by decide +kernel) _ _ _).trans ?_
  have hz : zfree [v0, v1, v2] 1 = true := by show decide (v0.category = 1) = true; exact decide_eq_true h
  show zres (zst zint 1 1 75 4 [v0, v1, v2] (.int x :: st) w) = _
  unfold zst
  dsimp only
  rw [if_pos ⟨rfl, Nat.le_of_ble_eq_true rfl, hz⟩]
  rfl
theorem e75_5 (v1 v2 : Value) (x : Nat) (st : List Value) (w : zH) : zrun none (75, 5, [.ref x, v1, v2], st, w) = zrun none (75, 6, [.ref x, v1, v2], (.ref x :: st), w) := (zE_ (i := .aload_n 0) (by decide +kernel) _ _ _).trans rfl
theorem e75_6 (ls : List Value) (a : Nat) (st : List Value) (w : zH) : zrun none (75, 6, ls, (.ref a :: st), w) = zo (zf w a 1104) (fun x => zrun none (75, 9, ls, (x :: st), w)) := (zE_ (i := .getfield 1104) (by decide +kernel) _ _ _).trans zq_getf
theorem e75_9 (ls : List Value) (a : Nat) (st : List Value) (w : zH) : zrun none (75, 9, ls, (.ref a :: st), w) = zo (zf w a 905) (fun x => zrun none (75, 12, ls, (x :: st), w)) := (zE_ (i := .getfield 905) (by decide +kernel) _ _ _).trans zq_getf
theorem e75_12 (v0 v1 v2 : Value) (x : Int32) (st : List Value) (w : zH) (h : v1.category = 1) : zrun none (75, 12, [v0, v1, v2], (.int x :: st), w) = zrun none (75, 13, [v0, v1, .int x], st, w) := by
  refine (zE_ (i := .istore_n 2) (by decide +kernel) _ _ _).trans ?_
  have hz : zfree [v0, v1, v2] 2 = true := by show decide (v1.category = 1) = true; exact decide_eq_true h
  show zres (zst zint 2 1 75 12 [v0, v1, v2] (.int x :: st) w) = _
  unfold zst
  dsimp only
  rw [if_pos ⟨rfl, Nat.le_of_ble_eq_true rfl, hz⟩]
  rfl
theorem e75_13 (v1 v2 : Value) (x : Nat) (st : List Value) (w : zH) : zrun none (75, 13, [.ref x, v1, v2], st, w) = zrun none (75, 14, [.ref x, v1, v2], (.ref x :: st), w) := (zE_ (i := .aload_n 0) (by decide +kernel) _ _ _).trans rfl
theorem e75_14 (ls : List Value) (a : Nat) (st : List Value) (w : zH) : zrun none (75, 14, ls, (.ref a :: st), w) = zo (zf w a 1104) (fun x => zrun none (75, 17, ls, (x :: st), w)) := (zE_ (i := .getfield 1104) (by decide +kernel) _ _ _).trans zq_getf
theorem e75_17 (ls st : List Value) (w : zH) : zrun none (75, 17, ls, st, w) = zrun none (75, 18, ls, (.int 0 :: st), w) := (zE_ (i := .iconst 0) (by decide +kernel) _ _ _).trans rfl
theorem e75_18 (ls : List Value) (x : Int32) (a : Nat) (st : List Value) (w : zH) : zrun none (75, 18, ls, (.int x :: .ref a :: st), w) = zgd (a < zX ∧ (zf w a 901).isSome = true) (zrun none (75, 21, ls, st, zpf w a 901 (.int x))) := by
  refine (zE_ (i := .putfield 901) (by decide +kernel) _ _ _).trans ?_
  by_cases hg : a < zX ∧ (zf w a 901).isSome = true
  · rw [zgd_pos hg]
    obtain ⟨ha, h⟩ := hg
    exact zq_putf ha h rfl rfl
  · rw [zgd_neg hg]
    exact zq_putf_no (fun h1 h2 h3 => hg ⟨h1, h2⟩)
theorem e75_21 (v0 v1 : Value) (x : Int32) (st : List Value) (w : zH) : zrun none (75, 21, [v0, v1, .int x], st, w) = zrun none (75, 22, [v0, v1, .int x], (.int x :: st), w) := (zE_ (i := .iload_n 2) (by decide +kernel) _ _ _).trans rfl
theorem e75_22 (ls : List Value) (a : Int32) (st : List Value) (w : zH) : zrun none (75, 22, ls, (.int a :: st), w) = if a = 0 then zrun none (75, 41, ls, st, w) else zrun none (75, 25, ls, st, w) := (zE_ (i := .ifCond .eq 19) (by decide +kernel) _ _ _).trans (zq_if_eq rfl rfl)
theorem e75_25 (v1 v2 : Value) (x : Nat) (st : List Value) (w : zH) : zrun none (75, 25, [.ref x, v1, v2], st, w) = zrun none (75, 26, [.ref x, v1, v2], (.ref x :: st), w) := (zE_ (i := .aload_n 0) (by decide +kernel) _ _ _).trans rfl
theorem e75_26 (v0 v1 : Value) (x : Int32) (st : List Value) (w : zH) : zrun none (75, 26, [v0, v1, .int x], st, w) = zrun none (75, 27, [v0, v1, .int x], (.int x :: st), w) := (zE_ (i := .iload_n 2) (by decide +kernel) _ _ _).trans rfl
theorem e75_27 (ls : List Value) (x : Int32) (a : Nat) (st : List Value) (w : zH) : zrun none (75, 27, ls, (.int x :: .ref a :: st), w) = zgd (a < zX ∧ (zf w a 1107).isSome = true) (zrun none (75, 30, ls, st, zpf w a 1107 (.int x))) := by
  refine (zE_ (i := .putfield 1107) (by decide +kernel) _ _ _).trans ?_
  by_cases hg : a < zX ∧ (zf w a 1107).isSome = true
  · rw [zgd_pos hg]
    obtain ⟨ha, h⟩ := hg
    exact zq_putf ha h rfl rfl
  · rw [zgd_neg hg]
    exact zq_putf_no (fun h1 h2 h3 => hg ⟨h1, h2⟩)
theorem e75_30 (ls st : List Value) (w : zH) : zrun none (75, 30, ls, st, w) = zrun none (75, 32, ls, (.int (-1000100) :: st), w) := (zE_ (i := .bipush (-1000100)) (by decide +kernel) _ _ _).trans rfl
theorem e75_32 (v1 v2 : Value) (x : Nat) (st : List Value) (w : zH) : zrun none (75, 32, [.ref x, v1, v2], st, w) = zrun none (75, 33, [.ref x, v1, v2], (.ref x :: st), w) := (zE_ (i := .aload_n 0) (by decide +kernel) _ _ _).trans rfl
theorem e75_33 (ls : List Value) (a : Nat) (st : List Value) (w : zH) : zrun none (75, 33, ls, (.ref a :: st), w) = zo (zf w a 1104) (fun x => zrun none (75, 36, ls, (x :: st), w)) := (zE_ (i := .getfield 1104) (by decide +kernel) _ _ _).trans zq_getf
theorem e75_36 (ls : List Value) (a : Nat) (st : List Value) (w : zH) : zrun none (75, 36, ls, (.ref a :: st), w) = zo (zf w a 906) (fun x => zrun none (75, 39, ls, (x :: st), w)) := (zE_ (i := .getfield 906) (by decide +kernel) _ _ _).trans zq_getf
theorem e75_39 (ls : List Value) (a b : Int32) (st : List Value) (w : zH) : zrun none (75, 39, ls, (.int b :: .int a :: st), w) = zrun none (75, 40, ls, (.int (a - b) :: st), w) := (zE_ (i := .isub) (by decide +kernel) _ _ _).trans rfl
theorem e75_40 (ls : List Value) (x : Int32) (w : zH) : zrun none (75, 40, ls, [.int x], w) = some (some (.int x), w) := by
  refine (zE_ (i := .ireturn) (by decide +kernel) _ _ _).trans ?_
  show zres (if narrow .int (.int x) = .int x then _ else none) = _
  rw [if_pos (show narrow .int (.int x) = .int x from rfl)]
  rfl
theorem e75_41 (v1 v2 : Value) (x : Nat) (st : List Value) (w : zH) : zrun none (75, 41, [.ref x, v1, v2], st, w) = zrun none (75, 42, [.ref x, v1, v2], (.ref x :: st), w) := (zE_ (i := .aload_n 0) (by decide +kernel) _ _ _).trans rfl
theorem e75_42 (v0 v2 : Value) (x : Int32) (st : List Value) (w : zH) : zrun none (75, 42, [v0, .int x, v2], st, w) = zrun none (75, 43, [v0, .int x, v2], (.int x :: st), w) := (zE_ (i := .iload_n 1) (by decide +kernel) _ _ _).trans rfl
theorem e75_43 (ls : List Value) (x : Int32) (a : Nat) (st : List Value) (w : zH) : zrun none (75, 43, ls, (.int x :: .ref a :: st), w) = zgd (a < zX ∧ (zf w a 1106).isSome = true) (zrun none (75, 46, ls, st, zpf w a 1106 (.int x))) := by
  refine (zE_ (i := .putfield 1106) (by decide +kernel) _ _ _).trans ?_
  by_cases hg : a < zX ∧ (zf w a 1106).isSome = true
  · rw [zgd_pos hg]
    obtain ⟨ha, h⟩ := hg
    exact zq_putf ha h rfl rfl
  · rw [zgd_neg hg]
    exact zq_putf_no (fun h1 h2 h3 => hg ⟨h1, h2⟩)
theorem e75_46 (v1 v2 : Value) (x : Nat) (st : List Value) (w : zH) : zrun none (75, 46, [.ref x, v1, v2], st, w) = zrun none (75, 47, [.ref x, v1, v2], (.ref x :: st), w) := (zE_ (i := .aload_n 0) (by decide +kernel) _ _ _).trans rfl
theorem e75_47 (ls : List Value) (a : Nat) (st : List Value) (w : zH) : zrun none (75, 47, ls, (.ref a :: st), w) = zo (zf w a 1106) (fun x => zrun none (75, 50, ls, (x :: st), w)) := (zE_ (i := .getfield 1106) (by decide +kernel) _ _ _).trans zq_getf
theorem e75_50 (ls : List Value) (x : Int32) (w : zH) : zrun none (75, 50, ls, [.int x], w) = some (some (.int x), w) := by
  refine (zE_ (i := .ireturn) (by decide +kernel) _ _ _).trans ?_
  show zres (if narrow .int (.int x) = .int x then _ else none) = _
  rw [if_pos (show narrow .int (.int x) = .int x from rfl)]
  rfl
theorem e76_0 (x : Nat) (st : List Value) (w : zH) : zrun none (76, 0, [.ref x], st, w) = zrun none (76, 1, [.ref x], (.ref x :: st), w) := (zE_ (i := .aload_n 0) (by decide +kernel) _ _ _).trans rfl
theorem e76_1 (ls : List Value) (a : Nat) (st : List Value) (w : zH) : zrun none (76, 1, ls, (.ref a :: st), w) = zo (zf w a 1107) (fun x => zrun none (76, 4, ls, (x :: st), w)) := (zE_ (i := .getfield 1107) (by decide +kernel) _ _ _).trans zq_getf
theorem e76_4 (ls : List Value) (x : Int32) (w : zH) : zrun none (76, 4, ls, [.int x], w) = some (some (.int x), w) := by
  refine (zE_ (i := .ireturn) (by decide +kernel) _ _ _).trans ?_
  show zres (if narrow .int (.int x) = .int x then _ else none) = _
  rw [if_pos (show narrow .int (.int x) = .int x from rfl)]
  rfl
theorem e77_0 (v1 v2 v3 v4 v5 : Value) (x : Nat) (st : List Value) (w : zH) : zrun none (77, 0, [.ref x, v1, v2, v3, v4, v5], st, w) = zrun none (77, 1, [.ref x, v1, v2, v3, v4, v5], (.ref x :: st), w) := (zE_ (i := .aload_n 0) (by decide +kernel) _ _ _).trans rfl
theorem e77_1 (v0 v2 v3 v4 v5 : Value) (x : Int32) (st : List Value) (w : zH) : zrun none (77, 1, [v0, .int x, v2, v3, v4, v5], st, w) = zrun none (77, 2, [v0, .int x, v2, v3, v4, v5], (.int x :: st), w) := (zE_ (i := .iload_n 1) (by decide +kernel) _ _ _).trans rfl
theorem e77_2 (ls : List Value) (a : Nat) (x0 : Int32) (st : List Value) (w : zH) (hr : zcat st ≤ 8) : zrun none (77, 2, ls, (.int x0 :: .ref a :: st), w) = zgd (zis w a 11) (zcl (zrun none (111, 0, [.ref a, .int x0], [], w)) (fun r => zrun none (77, 5, ls, r.1.toList ++ st, r.2))) := by
  refine (zE_ (i := .invokevirtual 111) (by decide +kernel) _ _ _).trans ?_
  show zres (zinv none 111 77 2 ls (.int x0 :: .ref a :: st) w) = _
  unfold zinv
  show zres (if zrc none 111 w (.ref a) = true then zcall 111 [.ref a, .int x0] st 77 2 ls w else none) = _
  by_cases hc : zis w a 11
  · rw [if_pos (zrc_is hc (by decide +kernel)), zgd_pos hc]
    exact zq_call hr (Nat.le_of_ble_eq_true rfl) rfl rfl
  · rw [zgd_neg hc, if_neg (fun q => hc (zrc_of q (by decide +kernel)))]
    rfl
theorem e77_5 (v0 v1 v2 v3 v4 v5 : Value) (x : Nat) (st : List Value) (w : zH) (h : v4.category = 1) : zrun none (77, 5, [v0, v1, v2, v3, v4, v5], (.ref x :: st), w) = zrun none (77, 7, [v0, v1, v2, v3, v4, .ref x], st, w) := by
  refine (zE_ (i := .astore 5) (by decide +kernel) _ _ _).trans ?_
  have hz : zfree [v0, v1, v2, v3, v4, v5] 5 = true := by show decide (v4.category = 1) = true; exact decide_eq_true h
  show zres (zst zref 5 2 77 5 [v0, v1, v2, v3, v4, v5] (.ref x :: st) w) = _
  unfold zst
  dsimp only
  rw [if_pos ⟨rfl, Nat.le_of_ble_eq_true rfl, hz⟩]
  rfl
theorem e77_5n (v0 v1 v2 v3 v4 v5 : Value) (st : List Value) (w : zH) (h : v4.category = 1) : zrun none (77, 5, [v0, v1, v2, v3, v4, v5], (.null :: st), w) = zrun none (77, 7, [v0, v1, v2, v3, v4, .null], st, w) := by
  refine (zE_ (i := .astore 5) (by decide +kernel) _ _ _).trans ?_
  have hz : zfree [v0, v1, v2, v3, v4, v5] 5 = true := by show decide (v4.category = 1) = true; exact decide_eq_true h
  show zres (zst zref 5 2 77 5 [v0, v1, v2, v3, v4, v5] (.null :: st) w) = _
  unfold zst
  dsimp only
  rw [if_pos ⟨rfl, Nat.le_of_ble_eq_true rfl, hz⟩]
  rfl
theorem e77_7 (v0 v1 v2 v3 v4 : Value) (x : Nat) (st : List Value) (w : zH) : zrun none (77, 7, [v0, v1, v2, v3, v4, .ref x], st, w) = zrun none (77, 9, [v0, v1, v2, v3, v4, .ref x], (.ref x :: st), w) := (zE_ (i := .aload 5) (by decide +kernel) _ _ _).trans rfl
theorem e77_7n (v0 v1 v2 v3 v4 : Value) (st : List Value) (w : zH) : zrun none (77, 7, [v0, v1, v2, v3, v4, .null], st, w) = zrun none (77, 9, [v0, v1, v2, v3, v4, .null], (.null :: st), w) := (zE_ (i := .aload 5) (by decide +kernel) _ _ _).trans rfl
theorem e77_9n (ls st : List Value) (w : zH) : zrun none (77, 9, ls, (.null :: st), w) = zrun none (77, 36, ls, st, w) := (zE_ (i := .ifnull 27) (by decide +kernel) _ _ _).trans rfl
theorem e77_9 (ls : List Value) (a : Nat) (st : List Value) (w : zH) (h : a < zX) : zrun none (77, 9, ls, (.ref a :: st), w) = zrun none (77, 12, ls, st, w) := by
  refine (zE_ (i := .ifnull 27) (by decide +kernel) _ _ _).trans ?_
  simp only [zI, if_pos h]
  rfl
theorem e77_12 (v0 v1 v3 v4 v5 : Value) (x : Int32) (st : List Value) (w : zH) : zrun none (77, 12, [v0, v1, .int x, v3, v4, v5], st, w) = zrun none (77, 13, [v0, v1, .int x, v3, v4, v5], (.int x :: st), w) := (zE_ (i := .iload_n 2) (by decide +kernel) _ _ _).trans rfl
theorem e77_13 (ls : List Value) (x0 : Int32) (st : List Value) (w : zH) (hr : zcat st ≤ 8) : zrun none (77, 13, ls, (.int x0 :: st), w) = zcl (zrun none (103, 0, [.int x0], [], w)) (fun r => zrun none (77, 16, ls, r.1.toList ++ st, r.2)) := by
  refine (zE_ (i := .invokestatic 103) (by decide +kernel) _ _ _).trans ?_
  show zres (if (99 : Nat) = 99 ∧ 1 ≤ ((.int x0 :: st) : List Value).length then zcall 103 [.int x0] st 77 13 ls w else none) = _
  rw [if_pos ⟨rfl, by simp⟩]
  exact zq_call hr (Nat.le_of_ble_eq_true rfl) rfl rfl
theorem e77_16 (ls : List Value) (a : Int32) (st : List Value) (w : zH) : zrun none (77, 16, ls, (.int a :: st), w) = if a = 0 then zrun none (77, 36, ls, st, w) else zrun none (77, 19, ls, st, w) := (zE_ (i := .ifCond .eq 20) (by decide +kernel) _ _ _).trans (zq_if_eq rfl rfl)
theorem e77_19 (v0 v1 v2 v4 v5 : Value) (x : Int32) (st : List Value) (w : zH) : zrun none (77, 19, [v0, v1, v2, .int x, v4, v5], st, w) = zrun none (77, 20, [v0, v1, v2, .int x, v4, v5], (.int x :: st), w) := (zE_ (i := .iload_n 3) (by decide +kernel) _ _ _).trans rfl
theorem e77_20 (ls : List Value) (x0 : Int32) (st : List Value) (w : zH) (hr : zcat st ≤ 8) : zrun none (77, 20, ls, (.int x0 :: st), w) = zcl (zrun none (101, 0, [.int x0], [], w)) (fun r => zrun none (77, 23, ls, r.1.toList ++ st, r.2)) := by
  refine (zE_ (i := .invokestatic 101) (by decide +kernel) _ _ _).trans ?_
  show zres (if (99 : Nat) = 99 ∧ 1 ≤ ((.int x0 :: st) : List Value).length then zcall 101 [.int x0] st 77 20 ls w else none) = _
  rw [if_pos ⟨rfl, by simp⟩]
  exact zq_call hr (Nat.le_of_ble_eq_true rfl) rfl rfl
theorem e77_23 (ls : List Value) (a : Int32) (st : List Value) (w : zH) : zrun none (77, 23, ls, (.int a :: st), w) = if a = 0 then zrun none (77, 36, ls, st, w) else zrun none (77, 26, ls, st, w) := (zE_ (i := .ifCond .eq 13) (by decide +kernel) _ _ _).trans (zq_if_eq rfl rfl)
theorem e77_26 (v0 v1 v2 v3 v5 : Value) (x : Int32) (st : List Value) (w : zH) : zrun none (77, 26, [v0, v1, v2, v3, .int x, v5], st, w) = zrun none (77, 28, [v0, v1, v2, v3, .int x, v5], (.int x :: st), w) := (zE_ (i := .iload 4) (by decide +kernel) _ _ _).trans rfl
theorem e77_28 (ls st : List Value) (w : zH) : zrun none (77, 28, ls, st, w) = zrun none (77, 29, ls, (.int 0 :: st), w) := (zE_ (i := .iconst 0) (by decide +kernel) _ _ _).trans rfl
theorem e77_29 (ls st : List Value) (w : zH) : zrun none (77, 29, ls, st, w) = zrun none (77, 30, ls, (.int 1 :: st), w) := (zE_ (i := .iconst 1) (by decide +kernel) _ _ _).trans rfl
theorem e77_30 (ls : List Value) (x0 : Int32) (x1 : Int32) (x2 : Int32) (st : List Value) (w : zH) (hr : zcat st ≤ 8) : zrun none (77, 30, ls, (.int x2 :: .int x1 :: .int x0 :: st), w) = zcl (zrun none (100, 0, [.int x0, .int x1, .int x2], [], w)) (fun r => zrun none (77, 33, ls, r.1.toList ++ st, r.2)) := by
  refine (zE_ (i := .invokestatic 100) (by decide +kernel) _ _ _).trans ?_
  show zres (if (99 : Nat) = 99 ∧ 3 ≤ ((.int x2 :: .int x1 :: .int x0 :: st) : List Value).length then zcall 100 [.int x0, .int x1, .int x2] st 77 30 ls w else none) = _
  rw [if_pos ⟨rfl, by simp⟩]
  exact zq_call hr (Nat.le_of_ble_eq_true rfl) rfl rfl
theorem e77_33 (ls : List Value) (a : Int32) (st : List Value) (w : zH) : zrun none (77, 33, ls, (.int a :: st), w) = if a = 0 then zrun none (77, 36, ls, st, w) else zrun none (77, 39, ls, st, w) := (zE_ (i := .ifCond .ne 6) (by decide +kernel) _ _ _).trans (zq_if_ne rfl rfl)
theorem e77_36 (ls st : List Value) (w : zH) : zrun none (77, 36, ls, st, w) = zrun none (77, 38, ls, (.int (-1000001) :: st), w) := (zE_ (i := .bipush (-1000001)) (by decide +kernel) _ _ _).trans rfl
theorem e77_38 (ls : List Value) (x : Int32) (w : zH) : zrun none (77, 38, ls, [.int x], w) = some (some (.int x), w) := by
  refine (zE_ (i := .ireturn) (by decide +kernel) _ _ _).trans ?_
  show zres (if narrow .int (.int x) = .int x then _ else none) = _
  rw [if_pos (show narrow .int (.int x) = .int x from rfl)]
  rfl
theorem e77_39 (v0 v1 v2 v3 v5 : Value) (x : Int32) (st : List Value) (w : zH) : zrun none (77, 39, [v0, v1, v2, v3, .int x, v5], st, w) = zrun none (77, 41, [v0, v1, v2, v3, .int x, v5], (.int x :: st), w) := (zE_ (i := .iload 4) (by decide +kernel) _ _ _).trans rfl
theorem e77_41 (ls : List Value) (a : Int32) (st : List Value) (w : zH) : zrun none (77, 41, ls, (.int a :: st), w) = if a = 0 then zrun none (77, 44, ls, st, w) else zrun none (77, 56, ls, st, w) := (zE_ (i := .ifCond .ne 15) (by decide +kernel) _ _ _).trans (zq_if_ne rfl rfl)
theorem e77_44 (v1 v2 v3 v4 v5 : Value) (x : Nat) (st : List Value) (w : zH) : zrun none (77, 44, [.ref x, v1, v2, v3, v4, v5], st, w) = zrun none (77, 45, [.ref x, v1, v2, v3, v4, v5], (.ref x :: st), w) := (zE_ (i := .aload_n 0) (by decide +kernel) _ _ _).trans rfl
theorem e77_45 (v0 v1 v2 v3 v4 : Value) (x : Nat) (st : List Value) (w : zH) : zrun none (77, 45, [v0, v1, v2, v3, v4, .ref x], st, w) = zrun none (77, 47, [v0, v1, v2, v3, v4, .ref x], (.ref x :: st), w) := (zE_ (i := .aload 5) (by decide +kernel) _ _ _).trans rfl
theorem e77_45n (v0 v1 v2 v3 v4 : Value) (st : List Value) (w : zH) : zrun none (77, 45, [v0, v1, v2, v3, v4, .null], st, w) = zrun none (77, 47, [v0, v1, v2, v3, v4, .null], (.null :: st), w) := (zE_ (i := .aload 5) (by decide +kernel) _ _ _).trans rfl
theorem e77_47 (v0 v1 v3 v4 v5 : Value) (x : Int32) (st : List Value) (w : zH) : zrun none (77, 47, [v0, v1, .int x, v3, v4, v5], st, w) = zrun none (77, 48, [v0, v1, .int x, v3, v4, v5], (.int x :: st), w) := (zE_ (i := .iload_n 2) (by decide +kernel) _ _ _).trans rfl
theorem e77_48 (v0 v1 v2 v4 v5 : Value) (x : Int32) (st : List Value) (w : zH) : zrun none (77, 48, [v0, v1, v2, .int x, v4, v5], st, w) = zrun none (77, 49, [v0, v1, v2, .int x, v4, v5], (.int x :: st), w) := (zE_ (i := .iload_n 3) (by decide +kernel) _ _ _).trans rfl
theorem e77_49 (ls : List Value) (a : Nat) (x0 : Nat) (x1 : Int32) (x2 : Int32) (st : List Value) (w : zH) (hr : zcat st ≤ 8) : zrun none (77, 49, ls, (.int x2 :: .int x1 :: .ref x0 :: .ref a :: st), w) = zgd (zis w a 11) (zcl (zrun none (124, 0, [.ref a, .ref x0, .int x1, .int x2, zJ, zJ], [], w)) (fun r => zrun none (77, 52, ls, r.1.toList ++ st, r.2))) := by
  refine (zE_ (i := .invokevirtual 124) (by decide +kernel) _ _ _).trans ?_
  show zres (zinv none 124 77 49 ls (.int x2 :: .int x1 :: .ref x0 :: .ref a :: st) w) = _
  unfold zinv
  show zres (if zrc none 124 w (.ref a) = true then zcall 124 [.ref a, .ref x0, .int x1, .int x2] st 77 49 ls w else none) = _
  by_cases hc : zis w a 11
  · rw [if_pos (zrc_is hc (by decide +kernel)), zgd_pos hc]
    exact zq_call hr (Nat.le_of_ble_eq_true rfl) rfl rfl
  · rw [zgd_neg hc, if_neg (fun q => hc (zrc_of q (by decide +kernel)))]
    rfl
theorem e77_52 (ls : List Value) (x0 : Int32) (st : List Value) (w : zH) (hr : zcat st ≤ 8) : zrun none (77, 52, ls, (.int x0 :: st), w) = zcl (zrun none (108, 0, [.int x0], [], w)) (fun r => zrun none (77, 55, ls, r.1.toList ++ st, r.2)) := by
  refine (zE_ (i := .invokestatic 108) (by decide +kernel) _ _ _).trans ?_
  show zres (if (99 : Nat) = 99 ∧ 1 ≤ ((.int x0 :: st) : List Value).length then zcall 108 [.int x0] st 77 52 ls w else none) = _
  rw [if_pos ⟨rfl, by simp⟩]
  exact zq_call hr (Nat.le_of_ble_eq_true rfl) rfl rfl
theorem e77_55 (ls : List Value) (x : Int32) (w : zH) : zrun none (77, 55, ls, [.int x], w) = some (some (.int x), w) := by
  refine (zE_ (i := .ireturn) (by decide +kernel) _ _ _).trans ?_
  show zres (if narrow .int (.int x) = .int x then _ else none) = _
  rw [if_pos (show narrow .int (.int x) = .int x from rfl)]
  rfl
theorem e77_56 (v1 v2 v3 v4 v5 : Value) (x : Nat) (st : List Value) (w : zH) : zrun none (77, 56, [.ref x, v1, v2, v3, v4, v5], st, w) = zrun none (77, 57, [.ref x, v1, v2, v3, v4, v5], (.ref x :: st), w) := (zE_ (i := .aload_n 0) (by decide +kernel) _ _ _).trans rfl
theorem e77_57 (v0 v1 v2 v3 v4 : Value) (x : Nat) (st : List Value) (w : zH) : zrun none (77, 57, [v0, v1, v2, v3, v4, .ref x], st, w) = zrun none (77, 59, [v0, v1, v2, v3, v4, .ref x], (.ref x :: st), w) := (zE_ (i := .aload 5) (by decide +kernel) _ _ _).trans rfl
theorem e77_57n (v0 v1 v2 v3 v4 : Value) (st : List Value) (w : zH) : zrun none (77, 57, [v0, v1, v2, v3, v4, .null], st, w) = zrun none (77, 59, [v0, v1, v2, v3, v4, .null], (.null :: st), w) := (zE_ (i := .aload 5) (by decide +kernel) _ _ _).trans rfl
theorem e77_59 (v0 v1 v3 v4 v5 : Value) (x : Int32) (st : List Value) (w : zH) : zrun none (77, 59, [v0, v1, .int x, v3, v4, v5], st, w) = zrun none (77, 60, [v0, v1, .int x, v3, v4, v5], (.int x :: st), w) := (zE_ (i := .iload_n 2) (by decide +kernel) _ _ _).trans rfl
theorem e77_60 (v0 v1 v2 v4 v5 : Value) (x : Int32) (st : List Value) (w : zH) : zrun none (77, 60, [v0, v1, v2, .int x, v4, v5], st, w) = zrun none (77, 61, [v0, v1, v2, .int x, v4, v5], (.int x :: st), w) := (zE_ (i := .iload_n 3) (by decide +kernel) _ _ _).trans rfl
theorem e77_61 (ls : List Value) (a : Nat) (x0 : Nat) (x1 : Int32) (x2 : Int32) (st : List Value) (w : zH) (hr : zcat st ≤ 8) : zrun none (77, 61, ls, (.int x2 :: .int x1 :: .ref x0 :: .ref a :: st), w) = zgd (zis w a 11) (zcl (zrun none (123, 0, [.ref a, .ref x0, .int x1, .int x2, zJ, zJ, zJ, zJ, zJ], [], w)) (fun r => zrun none (77, 64, ls, r.1.toList ++ st, r.2))) := by
  refine (zE_ (i := .invokevirtual 123) (by decide +kernel) _ _ _).trans ?_
  show zres (zinv none 123 77 61 ls (.int x2 :: .int x1 :: .ref x0 :: .ref a :: st) w) = _
  unfold zinv
  show zres (if zrc none 123 w (.ref a) = true then zcall 123 [.ref a, .ref x0, .int x1, .int x2] st 77 61 ls w else none) = _
  by_cases hc : zis w a 11
  · rw [if_pos (zrc_is hc (by decide +kernel)), zgd_pos hc]
    exact zq_call hr (Nat.le_of_ble_eq_true rfl) rfl rfl
  · rw [zgd_neg hc, if_neg (fun q => hc (zrc_of q (by decide +kernel)))]
    rfl
theorem e77_64 (ls : List Value) (x : Int32) (w : zH) : zrun none (77, 64, ls, [.int x], w) = some (some (.int x), w) := by
  refine (zE_ (i := .ireturn) (by decide +kernel) _ _ _).trans ?_
  show zres (if narrow .int (.int x) = .int x then _ else none) = _
  rw [if_pos (show narrow .int (.int x) = .int x from rfl)]
  rfl
theorem e78_0 (v1 v2 v3 v4 v5 : Value) (x : Nat) (st : List Value) (w : zH) : zrun none (78, 0, [.ref x, v1, v2, v3, v4, v5], st, w) = zrun none (78, 1, [.ref x, v1, v2, v3, v4, v5], (.ref x :: st), w) := (zE_ (i := .aload_n 0) (by decide +kernel) _ _ _).trans rfl
theorem e78_1 (v0 v2 v3 v4 v5 : Value) (x : Int32) (st : List Value) (w : zH) : zrun none (78, 1, [v0, .int x, v2, v3, v4, v5], st, w) = zrun none (78, 2, [v0, .int x, v2, v3, v4, v5], (.int x :: st), w) := (zE_ (i := .iload_n 1) (by decide +kernel) _ _ _).trans rfl
theorem e78_2 (ls : List Value) (a : Nat) (x0 : Int32) (st : List Value) (w : zH) (hr : zcat st ≤ 8) : zrun none (78, 2, ls, (.int x0 :: .ref a :: st), w) = zgd (zis w a 11) (zcl (zrun none (111, 0, [.ref a, .int x0], [], w)) (fun r => zrun none (78, 5, ls, r.1.toList ++ st, r.2))) := by
  refine (zE_ (i := .invokevirtual 111) (by decide +kernel) _ _ _).trans ?_
  show zres (zinv none 111 78 2 ls (.int x0 :: .ref a :: st) w) = _
  unfold zinv
  show zres (if zrc none 111 w (.ref a) = true then zcall 111 [.ref a, .int x0] st 78 2 ls w else none) = _
  by_cases hc : zis w a 11
  · rw [if_pos (zrc_is hc (by decide +kernel)), zgd_pos hc]
    exact zq_call hr (Nat.le_of_ble_eq_true rfl) rfl rfl
  · rw [zgd_neg hc, if_neg (fun q => hc (zrc_of q (by decide +kernel)))]
    rfl
theorem e78_5n (ls st : List Value) (w : zH) : zrun none (78, 5, ls, (.null :: st), w) = zrun none (78, 48, ls, st, w) := (zE_ (i := .ifnull 43) (by decide +kernel) _ _ _).trans rfl
theorem e78_5 (ls : List Value) (a : Nat) (st : List Value) (w : zH) (h : a < zX) : zrun none (78, 5, ls, (.ref a :: st), w) = zrun none (78, 8, ls, st, w) := by
  refine (zE_ (i := .ifnull 43) (by decide +kernel) _ _ _).trans ?_
  simp only [zI, if_pos h]
  rfl
theorem e78_8 (v0 v1 v3 v4 v5 : Value) (x : Int32) (st : List Value) (w : zH) : zrun none (78, 8, [v0, v1, .int x, v3, v4, v5], st, w) = zrun none (78, 9, [v0, v1, .int x, v3, v4, v5], (.int x :: st), w) := (zE_ (i := .iload_n 2) (by decide +kernel) _ _ _).trans rfl
theorem e78_9 (ls : List Value) (x0 : Int32) (st : List Value) (w : zH) (hr : zcat st ≤ 8) : zrun none (78, 9, ls, (.int x0 :: st), w) = zcl (zrun none (103, 0, [.int x0], [], w)) (fun r => zrun none (78, 12, ls, r.1.toList ++ st, r.2)) := by
  refine (zE_ (i := .invokestatic 103) (by decide +kernel) _ _ _).trans ?_
  show zres (if (99 : Nat) = 99 ∧ 1 ≤ ((.int x0 :: st) : List Value).length then zcall 103 [.int x0] st 78 9 ls w else none) = _
  rw [if_pos ⟨rfl, by simp⟩]
  exact zq_call hr (Nat.le_of_ble_eq_true rfl) rfl rfl
theorem e78_12 (ls : List Value) (a : Int32) (st : List Value) (w : zH) : zrun none (78, 12, ls, (.int a :: st), w) = if a = 0 then zrun none (78, 48, ls, st, w) else zrun none (78, 15, ls, st, w) := (zE_ (i := .ifCond .eq 36) (by decide +kernel) _ _ _).trans (zq_if_eq rfl rfl)
theorem e78_15 (v0 v1 v2 v4 v5 : Value) (x : Int32) (st : List Value) (w : zH) : zrun none (78, 15, [v0, v1, v2, .int x, v4, v5], st, w) = zrun none (78, 16, [v0, v1, v2, .int x, v4, v5], (.int x :: st), w) := (zE_ (i := .iload_n 3) (by decide +kernel) _ _ _).trans rfl
theorem e78_16 (ls : List Value) (x0 : Int32) (st : List Value) (w : zH) (hr : zcat st ≤ 8) : zrun none (78, 16, ls, (.int x0 :: st), w) = zcl (zrun none (101, 0, [.int x0], [], w)) (fun r => zrun none (78, 19, ls, r.1.toList ++ st, r.2)) := by
  refine (zE_ (i := .invokestatic 101) (by decide +kernel) _ _ _).trans ?_
  show zres (if (99 : Nat) = 99 ∧ 1 ≤ ((.int x0 :: st) : List Value).length then zcall 101 [.int x0] st 78 16 ls w else none) = _
  rw [if_pos ⟨rfl, by simp⟩]
  exact zq_call hr (Nat.le_of_ble_eq_true rfl) rfl rfl
theorem e78_19 (ls : List Value) (a : Int32) (st : List Value) (w : zH) : zrun none (78, 19, ls, (.int a :: st), w) = if a = 0 then zrun none (78, 48, ls, st, w) else zrun none (78, 22, ls, st, w) := (zE_ (i := .ifCond .eq 29) (by decide +kernel) _ _ _).trans (zq_if_eq rfl rfl)
theorem e78_22 (v0 v1 v2 v3 v5 : Value) (x : Int32) (st : List Value) (w : zH) : zrun none (78, 22, [v0, v1, v2, v3, .int x, v5], st, w) = zrun none (78, 24, [v0, v1, v2, v3, .int x, v5], (.int x :: st), w) := (zE_ (i := .iload 4) (by decide +kernel) _ _ _).trans rfl
theorem e78_24 (ls : List Value) (x0 : Int32) (st : List Value) (w : zH) (hr : zcat st ≤ 8) : zrun none (78, 24, ls, (.int x0 :: st), w) = zcl (zrun none (101, 0, [.int x0], [], w)) (fun r => zrun none (78, 27, ls, r.1.toList ++ st, r.2)) := by
  refine (zE_ (i := .invokestatic 101) (by decide +kernel) _ _ _).trans ?_
  show zres (if (99 : Nat) = 99 ∧ 1 ≤ ((.int x0 :: st) : List Value).length then zcall 101 [.int x0] st 78 24 ls w else none) = _
  rw [if_pos ⟨rfl, by simp⟩]
  exact zq_call hr (Nat.le_of_ble_eq_true rfl) rfl rfl
theorem e78_27 (ls : List Value) (a : Int32) (st : List Value) (w : zH) : zrun none (78, 27, ls, (.int a :: st), w) = if a = 0 then zrun none (78, 48, ls, st, w) else zrun none (78, 30, ls, st, w) := (zE_ (i := .ifCond .eq 21) (by decide +kernel) _ _ _).trans (zq_if_eq rfl rfl)
theorem e78_30 (v0 v1 v2 v3 v5 : Value) (x : Int32) (st : List Value) (w : zH) : zrun none (78, 30, [v0, v1, v2, v3, .int x, v5], st, w) = zrun none (78, 32, [v0, v1, v2, v3, .int x, v5], (.int x :: st), w) := (zE_ (i := .iload 4) (by decide +kernel) _ _ _).trans rfl
theorem e78_32 (v0 v1 v2 v4 v5 : Value) (x : Int32) (st : List Value) (w : zH) : zrun none (78, 32, [v0, v1, v2, .int x, v4, v5], st, w) = zrun none (78, 33, [v0, v1, v2, .int x, v4, v5], (.int x :: st), w) := (zE_ (i := .iload_n 3) (by decide +kernel) _ _ _).trans rfl
theorem e78_33 (ls : List Value) (a b : Int32) (st : List Value) (w : zH) : zrun none (78, 33, ls, (.int b :: .int a :: st), w) = if a < b then zrun none (78, 48, ls, st, w) else zrun none (78, 36, ls, st, w) := (zE_ (i := .if_icmp .lt 15) (by decide +kernel) _ _ _).trans (zq_ic_lt rfl rfl)
theorem e78_36 (v0 v1 v2 v3 v4 : Value) (x : Int32) (st : List Value) (w : zH) : zrun none (78, 36, [v0, v1, v2, v3, v4, .int x], st, w) = zrun none (78, 38, [v0, v1, v2, v3, v4, .int x], (.int x :: st), w) := (zE_ (i := .iload 5) (by decide +kernel) _ _ _).trans rfl
theorem e78_38 (ls st : List Value) (w : zH) : zrun none (78, 38, ls, st, w) = zrun none (78, 39, ls, (.int 0 :: st), w) := (zE_ (i := .iconst 0) (by decide +kernel) _ _ _).trans rfl
theorem e78_39 (ls st : List Value) (w : zH) : zrun none (78, 39, ls, st, w) = zrun none (78, 42, ls, (.int 255 :: st), w) := (zE_ (i := .sipush 255) (by decide +kernel) _ _ _).trans rfl
theorem e78_42 (ls : List Value) (x0 : Int32) (x1 : Int32) (x2 : Int32) (st : List Value) (w : zH) (hr : zcat st ≤ 8) : zrun none (78, 42, ls, (.int x2 :: .int x1 :: .int x0 :: st), w) = zcl (zrun none (100, 0, [.int x0, .int x1, .int x2], [], w)) (fun r => zrun none (78, 45, ls, r.1.toList ++ st, r.2)) := by
  refine (zE_ (i := .invokestatic 100) (by decide +kernel) _ _ _).trans ?_
  show zres (if (99 : Nat) = 99 ∧ 3 ≤ ((.int x2 :: .int x1 :: .int x0 :: st) : List Value).length then zcall 100 [.int x0, .int x1, .int x2] st 78 42 ls w else none) = _
  rw [if_pos ⟨rfl, by simp⟩]
  exact zq_call hr (Nat.le_of_ble_eq_true rfl) rfl rfl
theorem e78_45 (ls : List Value) (a : Int32) (st : List Value) (w : zH) : zrun none (78, 45, ls, (.int a :: st), w) = if a = 0 then zrun none (78, 48, ls, st, w) else zrun none (78, 51, ls, st, w) := (zE_ (i := .ifCond .ne 6) (by decide +kernel) _ _ _).trans (zq_if_ne rfl rfl)
theorem e78_48 (ls st : List Value) (w : zH) : zrun none (78, 48, ls, st, w) = zrun none (78, 50, ls, (.int (-1000001) :: st), w) := (zE_ (i := .bipush (-1000001)) (by decide +kernel) _ _ _).trans rfl
theorem e78_50 (ls : List Value) (x : Int32) (w : zH) : zrun none (78, 50, ls, [.int x], w) = some (some (.int x), w) := by
  refine (zE_ (i := .ireturn) (by decide +kernel) _ _ _).trans ?_
  show zres (if narrow .int (.int x) = .int x then _ else none) = _
  rw [if_pos (show narrow .int (.int x) = .int x from rfl)]
  rfl
theorem e78_51 (v1 v2 v3 v4 v5 : Value) (x : Nat) (st : List Value) (w : zH) : zrun none (78, 51, [.ref x, v1, v2, v3, v4, v5], st, w) = zrun none (78, 52, [.ref x, v1, v2, v3, v4, v5], (.ref x :: st), w) := (zE_ (i := .aload_n 0) (by decide +kernel) _ _ _).trans rfl
theorem e78_52 (ls : List Value) (a : Nat) (st : List Value) (w : zH) : zrun none (78, 52, ls, (.ref a :: st), w) = zo (zf w a 1109) (fun x => zrun none (78, 55, ls, (x :: st), w)) := (zE_ (i := .getfield 1109) (by decide +kernel) _ _ _).trans zq_getf
theorem e78_55 (ls st : List Value) (w : zH) : zrun none (78, 55, ls, st, w) = zrun none (78, 57, ls, (.int 10 :: st), w) := (zE_ (i := .bipush 10) (by decide +kernel) _ _ _).trans rfl
theorem e78_57 (ls : List Value) (a b : Int32) (st : List Value) (w : zH) : zrun none (78, 57, ls, (.int b :: .int a :: st), w) = if a < b then zrun none (78, 63, ls, st, w) else zrun none (78, 60, ls, st, w) := (zE_ (i := .if_icmp .lt 6) (by decide +kernel) _ _ _).trans (zq_ic_lt rfl rfl)
theorem e78_60 (ls st : List Value) (w : zH) : zrun none (78, 60, ls, st, w) = zrun none (78, 62, ls, (.int (-1000003) :: st), w) := (zE_ (i := .bipush (-1000003)) (by decide +kernel) _ _ _).trans rfl
theorem e78_62 (ls : List Value) (x : Int32) (w : zH) : zrun none (78, 62, ls, [.int x], w) = some (some (.int x), w) := by
  refine (zE_ (i := .ireturn) (by decide +kernel) _ _ _).trans ?_
  show zres (if narrow .int (.int x) = .int x then _ else none) = _
  rw [if_pos (show narrow .int (.int x) = .int x from rfl)]
  rfl
theorem e78_63 (v1 v2 v3 v4 v5 : Value) (x : Nat) (st : List Value) (w : zH) : zrun none (78, 63, [.ref x, v1, v2, v3, v4, v5], st, w) = zrun none (78, 64, [.ref x, v1, v2, v3, v4, v5], (.ref x :: st), w) := (zE_ (i := .aload_n 0) (by decide +kernel) _ _ _).trans rfl
theorem e78_64 (ls : List Value) (a : Nat) (st : List Value) (w : zH) : zrun none (78, 64, ls, (.ref a :: st), w) = zo (zf w a 1108) (fun x => zrun none (78, 67, ls, (x :: st), w)) := (zE_ (i := .getfield 1108) (by decide +kernel) _ _ _).trans zq_getf
theorem e78_67 (v1 v2 v3 v4 v5 : Value) (x : Nat) (st : List Value) (w : zH) : zrun none (78, 67, [.ref x, v1, v2, v3, v4, v5], st, w) = zrun none (78, 68, [.ref x, v1, v2, v3, v4, v5], (.ref x :: st), w) := (zE_ (i := .aload_n 0) (by decide +kernel) _ _ _).trans rfl
theorem e78_68 (ls : List Value) (a : Nat) (st : List Value) (w : zH) : zrun none (78, 68, ls, (.ref a :: st), w) = zo (zf w a 1109) (fun x => zrun none (78, 71, ls, (x :: st), w)) := (zE_ (i := .getfield 1109) (by decide +kernel) _ _ _).trans zq_getf
theorem e78_71 (ls st : List Value) (w : zH) : zrun none (78, 71, ls, st, w) = zgd (w.length + 1 < zX) (zrun none (78, 74, ls, (.ref w.length :: st), w ++ [(4, [.int 0, .int 0, .int 0, .int 0, .int 0, .null, .int 0])])) := by
  refine (zE_ (i := .new 4) (by decide +kernel) _ _ _).trans ?_
  simp only [zI]
  rw [if_pos (by decide)]
  unfold znw
  by_cases h : w.length + 1 < zX
  · rw [if_pos h, zgd_pos h]
    rfl
  · rw [if_neg h, zgd_neg h]
    rfl
theorem e78_74 (ls : List Value) (x : Int32) (st : List Value) (w : zH) : zrun none (78, 74, ls, (.int x :: st), w) = zrun none (78, 75, ls, (.int x :: .int x :: st), w) := (zE_ (i := .dup) (by decide +kernel) _ _ _).trans rfl
theorem e78_74r (ls : List Value) (x : Nat) (st : List Value) (w : zH) : zrun none (78, 74, ls, (.ref x :: st), w) = zrun none (78, 75, ls, (.ref x :: .ref x :: st), w) := (zE_ (i := .dup) (by decide +kernel) _ _ _).trans rfl
theorem e78_75 (v0 v2 v3 v4 v5 : Value) (x : Int32) (st : List Value) (w : zH) : zrun none (78, 75, [v0, .int x, v2, v3, v4, v5], st, w) = zrun none (78, 76, [v0, .int x, v2, v3, v4, v5], (.int x :: st), w) := (zE_ (i := .iload_n 1) (by decide +kernel) _ _ _).trans rfl
theorem e78_76 (v0 v1 v3 v4 v5 : Value) (x : Int32) (st : List Value) (w : zH) : zrun none (78, 76, [v0, v1, .int x, v3, v4, v5], st, w) = zrun none (78, 77, [v0, v1, .int x, v3, v4, v5], (.int x :: st), w) := (zE_ (i := .iload_n 2) (by decide +kernel) _ _ _).trans rfl
theorem e78_77 (v0 v1 v2 v4 v5 : Value) (x : Int32) (st : List Value) (w : zH) : zrun none (78, 77, [v0, v1, v2, .int x, v4, v5], st, w) = zrun none (78, 78, [v0, v1, v2, .int x, v4, v5], (.int x :: st), w) := (zE_ (i := .iload_n 3) (by decide +kernel) _ _ _).trans rfl
theorem e78_78 (v0 v1 v2 v3 v5 : Value) (x : Int32) (st : List Value) (w : zH) : zrun none (78, 78, [v0, v1, v2, v3, .int x, v5], st, w) = zrun none (78, 80, [v0, v1, v2, v3, .int x, v5], (.int x :: st), w) := (zE_ (i := .iload 4) (by decide +kernel) _ _ _).trans rfl
theorem e78_80 (v0 v1 v2 v3 v4 : Value) (x : Int32) (st : List Value) (w : zH) : zrun none (78, 80, [v0, v1, v2, v3, v4, .int x], st, w) = zrun none (78, 82, [v0, v1, v2, v3, v4, .int x], (.int x :: st), w) := (zE_ (i := .iload 5) (by decide +kernel) _ _ _).trans rfl
theorem e78_82 (ls : List Value) (a : Nat) (x0 : Int32) (x1 : Int32) (x2 : Int32) (x3 : Int32) (x4 : Int32) (st : List Value) (w : zH) (hr : zcat st ≤ 8) : zrun none (78, 82, ls, (.int x4 :: .int x3 :: .int x2 :: .int x1 :: .int x0 :: .ref a :: st), w) = zgd (zis w a 4) (zcl (zrun none (18, 0, [.ref a, .int x0, .int x1, .int x2, .int x3, .int x4], [], w)) (fun r => zrun none (78, 85, ls, r.1.toList ++ st, r.2))) := by
  refine (zE_ (i := .invokespecial 18) (by decide +kernel) _ _ _).trans ?_
  show zres (zinv none 18 78 82 ls (.int x4 :: .int x3 :: .int x2 :: .int x1 :: .int x0 :: .ref a :: st) w) = _
  unfold zinv
  show zres (if zrc none 18 w (.ref a) = true then zcall 18 [.ref a, .int x0, .int x1, .int x2, .int x3, .int x4] st 78 82 ls w else none) = _
  by_cases hc : zis w a 4
  · rw [if_pos (zrc_is hc (by decide +kernel)), zgd_pos hc]
    exact zq_call hr (Nat.le_of_ble_eq_true rfl) rfl rfl
  · rw [zgd_neg hc, if_neg (fun q => hc (zrc_of q (by decide +kernel)))]
    rfl
theorem e78_85 (ls : List Value) (v : Value) (j : Int32) (a : Nat) (st : List Value) (w : zH) : zrun none (78, 85, ls, (v :: .int j :: .ref a :: st), w) = zgd (zaq w a j v) (zrun none (78, 86, ls, st, zas w a j v)) := by
  refine (zE_ (i := .aastore) (by decide +kernel) _ _ _).trans ?_
  by_cases hg : zaq w a j v
  · rw [zgd_pos hg]
    obtain ⟨k, h1, h2⟩ := hg
    exact zq_aast h1 h2
  · rw [zgd_neg hg]
    exact zq_aast_no hg
theorem e78_86 (v1 v2 v3 v4 v5 : Value) (x : Nat) (st : List Value) (w : zH) : zrun none (78, 86, [.ref x, v1, v2, v3, v4, v5], st, w) = zrun none (78, 87, [.ref x, v1, v2, v3, v4, v5], (.ref x :: st), w) := (zE_ (i := .aload_n 0) (by decide +kernel) _ _ _).trans rfl
theorem e78_87 (ls : List Value) (x : Int32) (st : List Value) (w : zH) : zrun none (78, 87, ls, (.int x :: st), w) = zrun none (78, 88, ls, (.int x :: .int x :: st), w) := (zE_ (i := .dup) (by decide +kernel) _ _ _).trans rfl
theorem e78_87r (ls : List Value) (x : Nat) (st : List Value) (w : zH) : zrun none (78, 87, ls, (.ref x :: st), w) = zrun none (78, 88, ls, (.ref x :: .ref x :: st), w) := (zE_ (i := .dup) (by decide +kernel) _ _ _).trans rfl
theorem e78_88 (ls : List Value) (a : Nat) (st : List Value) (w : zH) : zrun none (78, 88, ls, (.ref a :: st), w) = zo (zf w a 1109) (fun x => zrun none (78, 91, ls, (x :: st), w)) := (zE_ (i := .getfield 1109) (by decide +kernel) _ _ _).trans zq_getf
theorem e78_91 (ls : List Value) (x : Int32) (a : Nat) (st : List Value) (w : zH) : zrun none (78, 91, ls, (.int x :: .ref a :: st), w) = zrun none (78, 92, ls, (.int x :: .ref a :: .int x :: st), w) := (zE_ (i := .dup_x1) (by decide +kernel) _ _ _).trans rfl
theorem e78_92 (ls st : List Value) (w : zH) : zrun none (78, 92, ls, st, w) = zrun none (78, 93, ls, (.int 1 :: st), w) := (zE_ (i := .iconst 1) (by decide +kernel) _ _ _).trans rfl
theorem e78_93 (ls : List Value) (a b : Int32) (st : List Value) (w : zH) : zrun none (78, 93, ls, (.int b :: .int a :: st), w) = zrun none (78, 94, ls, (.int (a + b) :: st), w) := (zE_ (i := .iadd) (by decide +kernel) _ _ _).trans rfl
theorem e78_94 (ls : List Value) (x : Int32) (a : Nat) (st : List Value) (w : zH) : zrun none (78, 94, ls, (.int x :: .ref a :: st), w) = zgd (a < zX ∧ (zf w a 1109).isSome = true) (zrun none (78, 97, ls, st, zpf w a 1109 (.int x))) := by
  refine (zE_ (i := .putfield 1109) (by decide +kernel) _ _ _).trans ?_
  by_cases hg : a < zX ∧ (zf w a 1109).isSome = true
  · rw [zgd_pos hg]
    obtain ⟨ha, h⟩ := hg
    exact zq_putf ha h rfl rfl
  · rw [zgd_neg hg]
    exact zq_putf_no (fun h1 h2 h3 => hg ⟨h1, h2⟩)
theorem e78_97 (ls : List Value) (x : Int32) (w : zH) : zrun none (78, 97, ls, [.int x], w) = some (some (.int x), w) := by
  refine (zE_ (i := .ireturn) (by decide +kernel) _ _ _).trans ?_
  show zres (if narrow .int (.int x) = .int x then _ else none) = _
  rw [if_pos (show narrow .int (.int x) = .int x from rfl)]
  rfl
theorem e79_0 (v1 v2 v3 v4 : Value) (x : Nat) (st : List Value) (w : zH) : zrun none (79, 0, [.ref x, v1, v2, v3, v4], st, w) = zrun none (79, 1, [.ref x, v1, v2, v3, v4], (.ref x :: st), w) := (zE_ (i := .aload_n 0) (by decide +kernel) _ _ _).trans rfl
theorem e79_1 (v0 v2 v3 v4 : Value) (x : Int32) (st : List Value) (w : zH) : zrun none (79, 1, [v0, .int x, v2, v3, v4], st, w) = zrun none (79, 2, [v0, .int x, v2, v3, v4], (.int x :: st), w) := (zE_ (i := .iload_n 1) (by decide +kernel) _ _ _).trans rfl
theorem e79_2 (ls : List Value) (a : Nat) (x0 : Int32) (st : List Value) (w : zH) (hr : zcat st ≤ 8) : zrun none (79, 2, ls, (.int x0 :: .ref a :: st), w) = zgd (zis w a 11) (zcl (zrun none (112, 0, [.ref a, .int x0], [], w)) (fun r => zrun none (79, 5, ls, r.1.toList ++ st, r.2))) := by
  refine (zE_ (i := .invokevirtual 112) (by decide +kernel) _ _ _).trans ?_
  show zres (zinv none 112 79 2 ls (.int x0 :: .ref a :: st) w) = _
  unfold zinv
  show zres (if zrc none 112 w (.ref a) = true then zcall 112 [.ref a, .int x0] st 79 2 ls w else none) = _
  by_cases hc : zis w a 11
  · rw [if_pos (zrc_is hc (by decide +kernel)), zgd_pos hc]
    exact zq_call hr (Nat.le_of_ble_eq_true rfl) rfl rfl
  · rw [zgd_neg hc, if_neg (fun q => hc (zrc_of q (by decide +kernel)))]
    rfl
theorem e79_5 (v0 v1 v2 v3 v4 : Value) (x : Nat) (st : List Value) (w : zH) (h : v3.category = 1) : zrun none (79, 5, [v0, v1, v2, v3, v4], (.ref x :: st), w) = zrun none (79, 7, [v0, v1, v2, v3, .ref x], st, w) := by
  refine (zE_ (i := .astore 4) (by decide +kernel) _ _ _).trans ?_
  have hz : zfree [v0, v1, v2, v3, v4] 4 = true := by show decide (v3.category = 1) = true; exact decide_eq_true h
  show zres (zst zref 4 2 79 5 [v0, v1, v2, v3, v4] (.ref x :: st) w) = _
  unfold zst
  dsimp only
  rw [if_pos ⟨rfl, Nat.le_of_ble_eq_true rfl, hz⟩]
  rfl
theorem e79_5n (v0 v1 v2 v3 v4 : Value) (st : List Value) (w : zH) (h : v3.category = 1) : zrun none (79, 5, [v0, v1, v2, v3, v4], (.null :: st), w) = zrun none (79, 7, [v0, v1, v2, v3, .null], st, w) := by
  refine (zE_ (i := .astore 4) (by decide +kernel) _ _ _).trans ?_
  have hz : zfree [v0, v1, v2, v3, v4] 4 = true := by show decide (v3.category = 1) = true; exact decide_eq_true h
  show zres (zst zref 4 2 79 5 [v0, v1, v2, v3, v4] (.null :: st) w) = _
  unfold zst
  dsimp only
  rw [if_pos ⟨rfl, Nat.le_of_ble_eq_true rfl, hz⟩]
  rfl
theorem e79_7 (v0 v1 v2 v3 : Value) (x : Nat) (st : List Value) (w : zH) : zrun none (79, 7, [v0, v1, v2, v3, .ref x], st, w) = zrun none (79, 9, [v0, v1, v2, v3, .ref x], (.ref x :: st), w) := (zE_ (i := .aload 4) (by decide +kernel) _ _ _).trans rfl
theorem e79_7n (v0 v1 v2 v3 : Value) (st : List Value) (w : zH) : zrun none (79, 7, [v0, v1, v2, v3, .null], st, w) = zrun none (79, 9, [v0, v1, v2, v3, .null], (.null :: st), w) := (zE_ (i := .aload 4) (by decide +kernel) _ _ _).trans rfl
theorem e79_9n (ls st : List Value) (w : zH) : zrun none (79, 9, ls, (.null :: st), w) = zrun none (79, 26, ls, st, w) := (zE_ (i := .ifnull 17) (by decide +kernel) _ _ _).trans rfl
theorem e79_9 (ls : List Value) (a : Nat) (st : List Value) (w : zH) (h : a < zX) : zrun none (79, 9, ls, (.ref a :: st), w) = zrun none (79, 12, ls, st, w) := by
  refine (zE_ (i := .ifnull 17) (by decide +kernel) _ _ _).trans ?_
  simp only [zI, if_pos h]
  rfl
theorem e79_12 (v0 v1 v3 v4 : Value) (x : Int32) (st : List Value) (w : zH) : zrun none (79, 12, [v0, v1, .int x, v3, v4], st, w) = zrun none (79, 13, [v0, v1, .int x, v3, v4], (.int x :: st), w) := (zE_ (i := .iload_n 2) (by decide +kernel) _ _ _).trans rfl
theorem e79_13 (ls : List Value) (x0 : Int32) (st : List Value) (w : zH) (hr : zcat st ≤ 8) : zrun none (79, 13, ls, (.int x0 :: st), w) = zcl (zrun none (104, 0, [.int x0], [], w)) (fun r => zrun none (79, 16, ls, r.1.toList ++ st, r.2)) := by
  refine (zE_ (i := .invokestatic 104) (by decide +kernel) _ _ _).trans ?_
  show zres (if (99 : Nat) = 99 ∧ 1 ≤ ((.int x0 :: st) : List Value).length then zcall 104 [.int x0] st 79 13 ls w else none) = _
  rw [if_pos ⟨rfl, by simp⟩]
  exact zq_call hr (Nat.le_of_ble_eq_true rfl) rfl rfl
theorem e79_16 (ls : List Value) (a : Int32) (st : List Value) (w : zH) : zrun none (79, 16, ls, (.int a :: st), w) = if a = 0 then zrun none (79, 26, ls, st, w) else zrun none (79, 19, ls, st, w) := (zE_ (i := .ifCond .eq 10) (by decide +kernel) _ _ _).trans (zq_if_eq rfl rfl)
theorem e79_19 (v0 v1 v2 v4 : Value) (x : Int32) (st : List Value) (w : zH) : zrun none (79, 19, [v0, v1, v2, .int x, v4], st, w) = zrun none (79, 20, [v0, v1, v2, .int x, v4], (.int x :: st), w) := (zE_ (i := .iload_n 3) (by decide +kernel) _ _ _).trans rfl
theorem e79_20 (ls : List Value) (x0 : Int32) (st : List Value) (w : zH) (hr : zcat st ≤ 8) : zrun none (79, 20, ls, (.int x0 :: st), w) = zcl (zrun none (101, 0, [.int x0], [], w)) (fun r => zrun none (79, 23, ls, r.1.toList ++ st, r.2)) := by
  refine (zE_ (i := .invokestatic 101) (by decide +kernel) _ _ _).trans ?_
  show zres (if (99 : Nat) = 99 ∧ 1 ≤ ((.int x0 :: st) : List Value).length then zcall 101 [.int x0] st 79 20 ls w else none) = _
  rw [if_pos ⟨rfl, by simp⟩]
  exact zq_call hr (Nat.le_of_ble_eq_true rfl) rfl rfl
theorem e79_23 (ls : List Value) (a : Int32) (st : List Value) (w : zH) : zrun none (79, 23, ls, (.int a :: st), w) = if a = 0 then zrun none (79, 26, ls, st, w) else zrun none (79, 29, ls, st, w) := (zE_ (i := .ifCond .ne 6) (by decide +kernel) _ _ _).trans (zq_if_ne rfl rfl)
theorem e79_26 (ls st : List Value) (w : zH) : zrun none (79, 26, ls, st, w) = zrun none (79, 28, ls, (.int (-1000001) :: st), w) := (zE_ (i := .bipush (-1000001)) (by decide +kernel) _ _ _).trans rfl
theorem e79_28 (ls : List Value) (x : Int32) (w : zH) : zrun none (79, 28, ls, [.int x], w) = some (some (.int x), w) := by
  refine (zE_ (i := .ireturn) (by decide +kernel) _ _ _).trans ?_
  show zres (if narrow .int (.int x) = .int x then _ else none) = _
  rw [if_pos (show narrow .int (.int x) = .int x from rfl)]
  rfl
theorem e79_29 (v0 v1 v2 v3 : Value) (x : Nat) (st : List Value) (w : zH) : zrun none (79, 29, [v0, v1, v2, v3, .ref x], st, w) = zrun none (79, 31, [v0, v1, v2, v3, .ref x], (.ref x :: st), w) := (zE_ (i := .aload 4) (by decide +kernel) _ _ _).trans rfl
theorem e79_29n (v0 v1 v2 v3 : Value) (st : List Value) (w : zH) : zrun none (79, 29, [v0, v1, v2, v3, .null], st, w) = zrun none (79, 31, [v0, v1, v2, v3, .null], (.null :: st), w) := (zE_ (i := .aload 4) (by decide +kernel) _ _ _).trans rfl
theorem e79_31 (ls : List Value) (a : Nat) (st : List Value) (w : zH) : zrun none (79, 31, ls, (.ref a :: st), w) = zo (zf w a 404) (fun x => zrun none (79, 34, ls, (x :: st), w)) := (zE_ (i := .getfield 404) (by decide +kernel) _ _ _).trans zq_getf
theorem e79_34 (v0 v1 v3 v4 : Value) (x : Int32) (st : List Value) (w : zH) : zrun none (79, 34, [v0, v1, .int x, v3, v4], st, w) = zrun none (79, 35, [v0, v1, .int x, v3, v4], (.int x :: st), w) := (zE_ (i := .iload_n 2) (by decide +kernel) _ _ _).trans rfl
theorem e79_35 (ls : List Value) (x0 : Int32) (x1 : Int32) (st : List Value) (w : zH) (hr : zcat st ≤ 8) : zrun none (79, 35, ls, (.int x1 :: .int x0 :: st), w) = zcl (zrun none (107, 0, [.int x0, .int x1], [], w)) (fun r => zrun none (79, 38, ls, r.1.toList ++ st, r.2)) := by
  refine (zE_ (i := .invokestatic 107) (by decide +kernel) _ _ _).trans ?_
  show zres (if (99 : Nat) = 99 ∧ 2 ≤ ((.int x1 :: .int x0 :: st) : List Value).length then zcall 107 [.int x0, .int x1] st 79 35 ls w else none) = _
  rw [if_pos ⟨rfl, by simp⟩]
  exact zq_call hr (Nat.le_of_ble_eq_true rfl) rfl rfl
theorem e79_38 (ls : List Value) (a : Int32) (st : List Value) (w : zH) : zrun none (79, 38, ls, (.int a :: st), w) = if a = 0 then zrun none (79, 53, ls, st, w) else zrun none (79, 41, ls, st, w) := (zE_ (i := .ifCond .eq 15) (by decide +kernel) _ _ _).trans (zq_if_eq rfl rfl)
theorem e79_41 (v0 v1 v2 v3 : Value) (x : Nat) (st : List Value) (w : zH) : zrun none (79, 41, [v0, v1, v2, v3, .ref x], st, w) = zrun none (79, 43, [v0, v1, v2, v3, .ref x], (.ref x :: st), w) := (zE_ (i := .aload 4) (by decide +kernel) _ _ _).trans rfl
theorem e79_41n (v0 v1 v2 v3 : Value) (st : List Value) (w : zH) : zrun none (79, 41, [v0, v1, v2, v3, .null], st, w) = zrun none (79, 43, [v0, v1, v2, v3, .null], (.null :: st), w) := (zE_ (i := .aload 4) (by decide +kernel) _ _ _).trans rfl
theorem e79_43 (ls : List Value) (a : Nat) (st : List Value) (w : zH) : zrun none (79, 43, ls, (.ref a :: st), w) = zo (zf w a 406) (fun x => zrun none (79, 46, ls, (x :: st), w)) := (zE_ (i := .getfield 406) (by decide +kernel) _ _ _).trans zq_getf
theorem e79_46 (v0 v1 v3 v4 : Value) (x : Int32) (st : List Value) (w : zH) : zrun none (79, 46, [v0, v1, .int x, v3, v4], st, w) = zrun none (79, 47, [v0, v1, .int x, v3, v4], (.int x :: st), w) := (zE_ (i := .iload_n 2) (by decide +kernel) _ _ _).trans rfl
theorem e79_47 (ls : List Value) (x0 : Int32) (x1 : Int32) (st : List Value) (w : zH) (hr : zcat st ≤ 8) : zrun none (79, 47, ls, (.int x1 :: .int x0 :: st), w) = zcl (zrun none (107, 0, [.int x0, .int x1], [], w)) (fun r => zrun none (79, 50, ls, r.1.toList ++ st, r.2)) := by
  refine (zE_ (i := .invokestatic 107) (by decide +kernel) _ _ _).trans ?_
  show zres (if (99 : Nat) = 99 ∧ 2 ≤ ((.int x1 :: .int x0 :: st) : List Value).length then zcall 107 [.int x0, .int x1] st 79 47 ls w else none) = _
  rw [if_pos ⟨rfl, by simp⟩]
  exact zq_call hr (Nat.le_of_ble_eq_true rfl) rfl rfl
theorem e79_50 (ls : List Value) (a : Int32) (st : List Value) (w : zH) : zrun none (79, 50, ls, (.int a :: st), w) = if a = 0 then zrun none (79, 56, ls, st, w) else zrun none (79, 53, ls, st, w) := (zE_ (i := .ifCond .eq 6) (by decide +kernel) _ _ _).trans (zq_if_eq rfl rfl)
theorem e79_53 (ls st : List Value) (w : zH) : zrun none (79, 53, ls, st, w) = zrun none (79, 55, ls, (.int (-1000002) :: st), w) := (zE_ (i := .bipush (-1000002)) (by decide +kernel) _ _ _).trans rfl
theorem e79_55 (ls : List Value) (x : Int32) (w : zH) : zrun none (79, 55, ls, [.int x], w) = some (some (.int x), w) := by
  refine (zE_ (i := .ireturn) (by decide +kernel) _ _ _).trans ?_
  show zres (if narrow .int (.int x) = .int x then _ else none) = _
  rw [if_pos (show narrow .int (.int x) = .int x from rfl)]
  rfl
theorem e79_56 (v0 v1 v2 v3 : Value) (x : Nat) (st : List Value) (w : zH) : zrun none (79, 56, [v0, v1, v2, v3, .ref x], st, w) = zrun none (79, 58, [v0, v1, v2, v3, .ref x], (.ref x :: st), w) := (zE_ (i := .aload 4) (by decide +kernel) _ _ _).trans rfl
theorem e79_56n (v0 v1 v2 v3 : Value) (st : List Value) (w : zH) : zrun none (79, 56, [v0, v1, v2, v3, .null], st, w) = zrun none (79, 58, [v0, v1, v2, v3, .null], (.null :: st), w) := (zE_ (i := .aload 4) (by decide +kernel) _ _ _).trans rfl
theorem e79_58 (v0 v1 v3 v4 : Value) (x : Int32) (st : List Value) (w : zH) : zrun none (79, 58, [v0, v1, .int x, v3, v4], st, w) = zrun none (79, 59, [v0, v1, .int x, v3, v4], (.int x :: st), w) := (zE_ (i := .iload_n 2) (by decide +kernel) _ _ _).trans rfl
theorem e79_59 (v0 v1 v2 v4 : Value) (x : Int32) (st : List Value) (w : zH) : zrun none (79, 59, [v0, v1, v2, .int x, v4], st, w) = zrun none (79, 60, [v0, v1, v2, .int x, v4], (.int x :: st), w) := (zE_ (i := .iload_n 3) (by decide +kernel) _ _ _).trans rfl
theorem e79_60 (ls : List Value) (a : Nat) (x0 : Int32) (x1 : Int32) (st : List Value) (w : zH) (hr : zcat st ≤ 8) : zrun none (79, 60, ls, (.int x1 :: .int x0 :: .ref a :: st), w) = zgd (zis w a 4) (zcl (zrun none (19, 0, [.ref a, .int x0, .int x1], [], w)) (fun r => zrun none (79, 63, ls, r.1.toList ++ st, r.2))) := by
  refine (zE_ (i := .invokevirtual 19) (by decide +kernel) _ _ _).trans ?_
  show zres (zinv none 19 79 60 ls (.int x1 :: .int x0 :: .ref a :: st) w) = _
  unfold zinv
  show zres (if zrc none 19 w (.ref a) = true then zcall 19 [.ref a, .int x0, .int x1] st 79 60 ls w else none) = _
  by_cases hc : zis w a 4
  · rw [if_pos (zrc_is hc (by decide +kernel)), zgd_pos hc]
    exact zq_call hr (Nat.le_of_ble_eq_true rfl) rfl rfl
  · rw [zgd_neg hc, if_neg (fun q => hc (zrc_of q (by decide +kernel)))]
    rfl
theorem e79_63 (ls st : List Value) (w : zH) : zrun none (79, 63, ls, st, w) = zrun none (79, 64, ls, (.int 1 :: st), w) := (zE_ (i := .iconst 1) (by decide +kernel) _ _ _).trans rfl
theorem e79_64 (ls : List Value) (x : Int32) (w : zH) : zrun none (79, 64, ls, [.int x], w) = some (some (.int x), w) := by
  refine (zE_ (i := .ireturn) (by decide +kernel) _ _ _).trans ?_
  show zres (if narrow .int (.int x) = .int x then _ else none) = _
  rw [if_pos (show narrow .int (.int x) = .int x from rfl)]
  rfl
theorem e80_0 (v0 v2 : Value) (x : Int32) (st : List Value) (w : zH) : zrun none (80, 0, [v0, .int x, v2], st, w) = zrun none (80, 1, [v0, .int x, v2], (.int x :: st), w) := (zE_ (i := .iload_n 1) (by decide +kernel) _ _ _).trans rfl
theorem e80_1 (ls : List Value) (x0 : Int32) (st : List Value) (w : zH) (hr : zcat st ≤ 8) : zrun none (80, 1, ls, (.int x0 :: st), w) = zcl (zrun none (104, 0, [.int x0], [], w)) (fun r => zrun none (80, 4, ls, r.1.toList ++ st, r.2)) := by
  refine (zE_ (i := .invokestatic 104) (by decide +kernel) _ _ _).trans ?_
  show zres (if (99 : Nat) = 99 ∧ 1 ≤ ((.int x0 :: st) : List Value).length then zcall 104 [.int x0] st 80 1 ls w else none) = _
  rw [if_pos ⟨rfl, by simp⟩]
  exact zq_call hr (Nat.le_of_ble_eq_true rfl) rfl rfl
theorem e80_4 (ls : List Value) (a : Int32) (st : List Value) (w : zH) : zrun none (80, 4, ls, (.int a :: st), w) = if a = 0 then zrun none (80, 19, ls, st, w) else zrun none (80, 7, ls, st, w) := (zE_ (i := .ifCond .eq 15) (by decide +kernel) _ _ _).trans (zq_if_eq rfl rfl)
theorem e80_7 (v0 v1 : Value) (x : Int32) (st : List Value) (w : zH) : zrun none (80, 7, [v0, v1, .int x], st, w) = zrun none (80, 8, [v0, v1, .int x], (.int x :: st), w) := (zE_ (i := .iload_n 2) (by decide +kernel) _ _ _).trans rfl
theorem e80_8 (ls : List Value) (x0 : Int32) (st : List Value) (w : zH) (hr : zcat st ≤ 8) : zrun none (80, 8, ls, (.int x0 :: st), w) = zcl (zrun none (104, 0, [.int x0], [], w)) (fun r => zrun none (80, 11, ls, r.1.toList ++ st, r.2)) := by
  refine (zE_ (i := .invokestatic 104) (by decide +kernel) _ _ _).trans ?_
  show zres (if (99 : Nat) = 99 ∧ 1 ≤ ((.int x0 :: st) : List Value).length then zcall 104 [.int x0] st 80 8 ls w else none) = _
  rw [if_pos ⟨rfl, by simp⟩]
  exact zq_call hr (Nat.le_of_ble_eq_true rfl) rfl rfl
theorem e80_11 (ls : List Value) (a : Int32) (st : List Value) (w : zH) : zrun none (80, 11, ls, (.int a :: st), w) = if a = 0 then zrun none (80, 19, ls, st, w) else zrun none (80, 14, ls, st, w) := (zE_ (i := .ifCond .eq 8) (by decide +kernel) _ _ _).trans (zq_if_eq rfl rfl)
theorem e80_14 (v0 v2 : Value) (x : Int32) (st : List Value) (w : zH) : zrun none (80, 14, [v0, .int x, v2], st, w) = zrun none (80, 15, [v0, .int x, v2], (.int x :: st), w) := (zE_ (i := .iload_n 1) (by decide +kernel) _ _ _).trans rfl
theorem e80_15 (v0 v1 : Value) (x : Int32) (st : List Value) (w : zH) : zrun none (80, 15, [v0, v1, .int x], st, w) = zrun none (80, 16, [v0, v1, .int x], (.int x :: st), w) := (zE_ (i := .iload_n 2) (by decide +kernel) _ _ _).trans rfl
theorem e80_16 (ls : List Value) (a b : Int32) (st : List Value) (w : zH) : zrun none (80, 16, ls, (.int b :: .int a :: st), w) = if a = b then zrun none (80, 19, ls, st, w) else zrun none (80, 22, ls, st, w) := (zE_ (i := .if_icmp .ne 6) (by decide +kernel) _ _ _).trans (zq_ic_ne rfl rfl)
theorem e80_19 (ls st : List Value) (w : zH) : zrun none (80, 19, ls, st, w) = zrun none (80, 21, ls, (.int (-1000001) :: st), w) := (zE_ (i := .bipush (-1000001)) (by decide +kernel) _ _ _).trans rfl
theorem e80_21 (ls : List Value) (x : Int32) (w : zH) : zrun none (80, 21, ls, [.int x], w) = some (some (.int x), w) := by
  refine (zE_ (i := .ireturn) (by decide +kernel) _ _ _).trans ?_
  show zres (if narrow .int (.int x) = .int x then _ else none) = _
  rw [if_pos (show narrow .int (.int x) = .int x from rfl)]
  rfl
theorem e80_22 (v1 v2 : Value) (x : Nat) (st : List Value) (w : zH) : zrun none (80, 22, [.ref x, v1, v2], st, w) = zrun none (80, 23, [.ref x, v1, v2], (.ref x :: st), w) := (zE_ (i := .aload_n 0) (by decide +kernel) _ _ _).trans rfl
theorem e80_23 (ls : List Value) (a : Nat) (st : List Value) (w : zH) : zrun none (80, 23, ls, (.ref a :: st), w) = zo (zf w a 1110) (fun x => zrun none (80, 26, ls, (x :: st), w)) := (zE_ (i := .getfield 1110) (by decide +kernel) _ _ _).trans zq_getf
theorem e80_26 (v0 v2 : Value) (x : Int32) (st : List Value) (w : zH) : zrun none (80, 26, [v0, .int x, v2], st, w) = zrun none (80, 27, [v0, .int x, v2], (.int x :: st), w) := (zE_ (i := .iload_n 1) (by decide +kernel) _ _ _).trans rfl
theorem e80_27 (v0 v1 : Value) (x : Int32) (st : List Value) (w : zH) : zrun none (80, 27, [v0, v1, .int x], st, w) = zrun none (80, 28, [v0, v1, .int x], (.int x :: st), w) := (zE_ (i := .iload_n 2) (by decide +kernel) _ _ _).trans rfl
theorem e80_28 (ls : List Value) (a : Nat) (x0 : Int32) (x1 : Int32) (st : List Value) (w : zH) (hr : zcat st ≤ 8) : zrun none (80, 28, ls, (.int x1 :: .int x0 :: .ref a :: st), w) = zgd (zis w a 6) (zcl (zrun none (24, 0, [.ref a, .int x0, .int x1], [], w)) (fun r => zrun none (80, 31, ls, r.1.toList ++ st, r.2))) := by
  refine (zE_ (i := .invokevirtual 24) (by decide +kernel) _ _ _).trans ?_
  show zres (zinv none 24 80 28 ls (.int x1 :: .int x0 :: .ref a :: st) w) = _
  unfold zinv
  show zres (if zrc none 24 w (.ref a) = true then zcall 24 [.ref a, .int x0, .int x1] st 80 28 ls w else none) = _
  by_cases hc : zis w a 6
  · rw [if_pos (zrc_is hc (by decide +kernel)), zgd_pos hc]
    exact zq_call hr (Nat.le_of_ble_eq_true rfl) rfl rfl
  · rw [zgd_neg hc, if_neg (fun q => hc (zrc_of q (by decide +kernel)))]
    rfl
theorem e80_31 (ls : List Value) (x : Int32) (w : zH) : zrun none (80, 31, ls, [.int x], w) = some (some (.int x), w) := by
  refine (zE_ (i := .ireturn) (by decide +kernel) _ _ _).trans ?_
  show zres (if narrow .int (.int x) = .int x then _ else none) = _
  rw [if_pos (show narrow .int (.int x) = .int x from rfl)]
  rfl
theorem e81_0 (v1 v2 v3 : Value) (x : Nat) (st : List Value) (w : zH) : zrun none (81, 0, [.ref x, v1, v2, v3], st, w) = zrun none (81, 1, [.ref x, v1, v2, v3], (.ref x :: st), w) := (zE_ (i := .aload_n 0) (by decide +kernel) _ _ _).trans rfl
theorem e81_1 (v0 v2 v3 : Value) (x : Int32) (st : List Value) (w : zH) : zrun none (81, 1, [v0, .int x, v2, v3], st, w) = zrun none (81, 2, [v0, .int x, v2, v3], (.int x :: st), w) := (zE_ (i := .iload_n 1) (by decide +kernel) _ _ _).trans rfl
theorem e81_2 (ls : List Value) (a : Nat) (x0 : Int32) (st : List Value) (w : zH) (hr : zcat st ≤ 8) : zrun none (81, 2, ls, (.int x0 :: .ref a :: st), w) = zgd (zis w a 11) (zcl (zrun none (112, 0, [.ref a, .int x0], [], w)) (fun r => zrun none (81, 5, ls, r.1.toList ++ st, r.2))) := by
  refine (zE_ (i := .invokevirtual 112) (by decide +kernel) _ _ _).trans ?_
  show zres (zinv none 112 81 2 ls (.int x0 :: .ref a :: st) w) = _
  unfold zinv
  show zres (if zrc none 112 w (.ref a) = true then zcall 112 [.ref a, .int x0] st 81 2 ls w else none) = _
  by_cases hc : zis w a 11
  · rw [if_pos (zrc_is hc (by decide +kernel)), zgd_pos hc]
    exact zq_call hr (Nat.le_of_ble_eq_true rfl) rfl rfl
  · rw [zgd_neg hc, if_neg (fun q => hc (zrc_of q (by decide +kernel)))]
    rfl
theorem e81_5 (v0 v1 v2 v3 : Value) (x : Nat) (st : List Value) (w : zH) (h : v2.category = 1) : zrun none (81, 5, [v0, v1, v2, v3], (.ref x :: st), w) = zrun none (81, 6, [v0, v1, v2, .ref x], st, w) := by
  refine (zE_ (i := .astore_n 3) (by decide +kernel) _ _ _).trans ?_
  have hz : zfree [v0, v1, v2, v3] 3 = true := by show decide (v2.category = 1) = true; exact decide_eq_true h
  show zres (zst zref 3 1 81 5 [v0, v1, v2, v3] (.ref x :: st) w) = _
  unfold zst
  dsimp only
  rw [if_pos ⟨rfl, Nat.le_of_ble_eq_true rfl, hz⟩]
  rfl
theorem e81_5n (v0 v1 v2 v3 : Value) (st : List Value) (w : zH) (h : v2.category = 1) : zrun none (81, 5, [v0, v1, v2, v3], (.null :: st), w) = zrun none (81, 6, [v0, v1, v2, .null], st, w) := by
  refine (zE_ (i := .astore_n 3) (by decide +kernel) _ _ _).trans ?_
  have hz : zfree [v0, v1, v2, v3] 3 = true := by show decide (v2.category = 1) = true; exact decide_eq_true h
  show zres (zst zref 3 1 81 5 [v0, v1, v2, v3] (.null :: st) w) = _
  unfold zst
  dsimp only
  rw [if_pos ⟨rfl, Nat.le_of_ble_eq_true rfl, hz⟩]
  rfl
theorem e81_6 (v0 v1 v2 : Value) (x : Nat) (st : List Value) (w : zH) : zrun none (81, 6, [v0, v1, v2, .ref x], st, w) = zrun none (81, 7, [v0, v1, v2, .ref x], (.ref x :: st), w) := (zE_ (i := .aload_n 3) (by decide +kernel) _ _ _).trans rfl
theorem e81_6n (v0 v1 v2 : Value) (st : List Value) (w : zH) : zrun none (81, 6, [v0, v1, v2, .null], st, w) = zrun none (81, 7, [v0, v1, v2, .null], (.null :: st), w) := (zE_ (i := .aload_n 3) (by decide +kernel) _ _ _).trans rfl
theorem e81_7n (ls st : List Value) (w : zH) : zrun none (81, 7, ls, (.null :: st), w) = zrun none (81, 10, ls, st, w) := (zE_ (i := .ifnonnull 6) (by decide +kernel) _ _ _).trans rfl
theorem e81_7 (ls : List Value) (a : Nat) (st : List Value) (w : zH) (h : a < zX) : zrun none (81, 7, ls, (.ref a :: st), w) = zrun none (81, 13, ls, st, w) := by
  refine (zE_ (i := .ifnonnull 6) (by decide +kernel) _ _ _).trans ?_
  simp only [zI, if_pos h]
  rfl
theorem e81_10 (ls st : List Value) (w : zH) : zrun none (81, 10, ls, st, w) = zrun none (81, 12, ls, (.int (-1000001) :: st), w) := (zE_ (i := .bipush (-1000001)) (by decide +kernel) _ _ _).trans rfl
theorem e81_12 (ls : List Value) (x : Int32) (w : zH) : zrun none (81, 12, ls, [.int x], w) = some (some (.int x), w) := by
  refine (zE_ (i := .ireturn) (by decide +kernel) _ _ _).trans ?_
  show zres (if narrow .int (.int x) = .int x then _ else none) = _
  rw [if_pos (show narrow .int (.int x) = .int x from rfl)]
  rfl
theorem e81_13 (v0 v1 v3 : Value) (x : Int32) (st : List Value) (w : zH) : zrun none (81, 13, [v0, v1, .int x, v3], st, w) = zrun none (81, 14, [v0, v1, .int x, v3], (.int x :: st), w) := (zE_ (i := .iload_n 2) (by decide +kernel) _ _ _).trans rfl
theorem e81_14 (ls : List Value) (a : Int32) (st : List Value) (w : zH) : zrun none (81, 14, ls, (.int a :: st), w) = if a = 0 then zrun none (81, 44, ls, st, w) else if a = 1 then zrun none (81, 52, ls, st, w) else if a = 2 then zrun none (81, 60, ls, st, w) else if a = 3 then zrun none (81, 72, ls, st, w) else zrun none (81, 84, ls, st, w) := by
  refine (zE_ (i := .tableswitch 70 0 3 #[30, 38, 46, 58]) (by decide +kernel) _ _ _).trans ?_
  by_cases h1000 : a = 0
  · subst h1000
    rfl
  rw [if_neg h1000]
  by_cases h1001 : a = 1
  · subst h1001
    rfl
  rw [if_neg h1001]
  by_cases h1002 : a = 2
  · subst h1002
    rfl
  rw [if_neg h1002]
  by_cases h1003 : a = 3
  · subst h1003
    rfl
  rw [if_neg h1003]
  have hr : a.toInt < 0 ∨ 3 < a.toInt := by
    by_cases q1 : a.toInt < 0
    · exact Or.inl q1
    by_cases q2 : 3 < a.toInt
    · exact Or.inr q2
    exfalso
    have k1000 := zne32 h1000
    have k1001 := zne32 h1001
    have k1002 := zne32 h1002
    have k1003 := zne32 h1003
    have j1000 : ((0 : Int32)).toInt = 0 := by decide
    rw [j1000] at k1000
    have j1001 : ((1 : Int32)).toInt = 1 := by decide
    rw [j1001] at k1001
    have j1002 : ((2 : Int32)).toInt = 2 := by decide
    rw [j1002] at k1002
    have j1003 : ((3 : Int32)).toInt = 3 := by decide
    rw [j1003] at k1003
    omega
  simp only [zI, if_pos hr]
  rfl
theorem e81_44 (v0 v1 v2 : Value) (x : Nat) (st : List Value) (w : zH) : zrun none (81, 44, [v0, v1, v2, .ref x], st, w) = zrun none (81, 45, [v0, v1, v2, .ref x], (.ref x :: st), w) := (zE_ (i := .aload_n 3) (by decide +kernel) _ _ _).trans rfl
theorem e81_44n (v0 v1 v2 : Value) (st : List Value) (w : zH) : zrun none (81, 44, [v0, v1, v2, .null], st, w) = zrun none (81, 45, [v0, v1, v2, .null], (.null :: st), w) := (zE_ (i := .aload_n 3) (by decide +kernel) _ _ _).trans rfl
theorem e81_45 (ls : List Value) (a : Nat) (st : List Value) (w : zH) : zrun none (81, 45, ls, (.ref a :: st), w) = zo (zf w a 404) (fun x => zrun none (81, 48, ls, (x :: st), w)) := (zE_ (i := .getfield 404) (by decide +kernel) _ _ _).trans zq_getf
theorem e81_48 (ls : List Value) (x0 : Int32) (st : List Value) (w : zH) (hr : zcat st ≤ 8) : zrun none (81, 48, ls, (.int x0 :: st), w) = zcl (zrun none (225, 0, [.int x0], [], w)) (fun r => zrun none (81, 51, ls, r.1.toList ++ st, r.2)) := by
  refine (zE_ (i := .invokestatic 225) (by decide +kernel) _ _ _).trans ?_
  show zres (if (99 : Nat) = 99 ∧ 1 ≤ ((.int x0 :: st) : List Value).length then zcall 225 [.int x0] st 81 48 ls w else none) = _
  rw [if_pos ⟨rfl, by simp⟩]
  exact zq_call hr (Nat.le_of_ble_eq_true rfl) rfl rfl
theorem e81_51 (ls : List Value) (x : Int32) (w : zH) : zrun none (81, 51, ls, [.int x], w) = some (some (.int x), w) := by
  refine (zE_ (i := .ireturn) (by decide +kernel) _ _ _).trans ?_
  show zres (if narrow .int (.int x) = .int x then _ else none) = _
  rw [if_pos (show narrow .int (.int x) = .int x from rfl)]
  rfl
theorem e81_52 (v0 v1 v2 : Value) (x : Nat) (st : List Value) (w : zH) : zrun none (81, 52, [v0, v1, v2, .ref x], st, w) = zrun none (81, 53, [v0, v1, v2, .ref x], (.ref x :: st), w) := (zE_ (i := .aload_n 3) (by decide +kernel) _ _ _).trans rfl
theorem e81_52n (v0 v1 v2 : Value) (st : List Value) (w : zH) : zrun none (81, 52, [v0, v1, v2, .null], st, w) = zrun none (81, 53, [v0, v1, v2, .null], (.null :: st), w) := (zE_ (i := .aload_n 3) (by decide +kernel) _ _ _).trans rfl
theorem e81_53 (ls : List Value) (a : Nat) (st : List Value) (w : zH) : zrun none (81, 53, ls, (.ref a :: st), w) = zo (zf w a 406) (fun x => zrun none (81, 56, ls, (x :: st), w)) := (zE_ (i := .getfield 406) (by decide +kernel) _ _ _).trans zq_getf
theorem e81_56 (ls : List Value) (x0 : Int32) (st : List Value) (w : zH) (hr : zcat st ≤ 8) : zrun none (81, 56, ls, (.int x0 :: st), w) = zcl (zrun none (225, 0, [.int x0], [], w)) (fun r => zrun none (81, 59, ls, r.1.toList ++ st, r.2)) := by
  refine (zE_ (i := .invokestatic 225) (by decide +kernel) _ _ _).trans ?_
  show zres (if (99 : Nat) = 99 ∧ 1 ≤ ((.int x0 :: st) : List Value).length then zcall 225 [.int x0] st 81 56 ls w else none) = _
  rw [if_pos ⟨rfl, by simp⟩]
  exact zq_call hr (Nat.le_of_ble_eq_true rfl) rfl rfl
theorem e81_59 (ls : List Value) (x : Int32) (w : zH) : zrun none (81, 59, ls, [.int x], w) = some (some (.int x), w) := by
  refine (zE_ (i := .ireturn) (by decide +kernel) _ _ _).trans ?_
  show zres (if narrow .int (.int x) = .int x then _ else none) = _
  rw [if_pos (show narrow .int (.int x) = .int x from rfl)]
  rfl
theorem e81_60 (v1 v2 v3 : Value) (x : Nat) (st : List Value) (w : zH) : zrun none (81, 60, [.ref x, v1, v2, v3], st, w) = zrun none (81, 61, [.ref x, v1, v2, v3], (.ref x :: st), w) := (zE_ (i := .aload_n 0) (by decide +kernel) _ _ _).trans rfl
theorem e81_61 (ls : List Value) (a : Nat) (st : List Value) (w : zH) : zrun none (81, 61, ls, (.ref a :: st), w) = zo (zf w a 1110) (fun x => zrun none (81, 64, ls, (x :: st), w)) := (zE_ (i := .getfield 1110) (by decide +kernel) _ _ _).trans zq_getf
theorem e81_64 (v0 v1 v2 : Value) (x : Nat) (st : List Value) (w : zH) : zrun none (81, 64, [v0, v1, v2, .ref x], st, w) = zrun none (81, 65, [v0, v1, v2, .ref x], (.ref x :: st), w) := (zE_ (i := .aload_n 3) (by decide +kernel) _ _ _).trans rfl
theorem e81_64n (v0 v1 v2 : Value) (st : List Value) (w : zH) : zrun none (81, 64, [v0, v1, v2, .null], st, w) = zrun none (81, 65, [v0, v1, v2, .null], (.null :: st), w) := (zE_ (i := .aload_n 3) (by decide +kernel) _ _ _).trans rfl
theorem e81_65 (ls : List Value) (a : Nat) (st : List Value) (w : zH) : zrun none (81, 65, ls, (.ref a :: st), w) = zo (zf w a 404) (fun x => zrun none (81, 68, ls, (x :: st), w)) := (zE_ (i := .getfield 404) (by decide +kernel) _ _ _).trans zq_getf
theorem e81_68 (ls : List Value) (a : Nat) (x0 : Int32) (st : List Value) (w : zH) (hr : zcat st ≤ 8) : zrun none (81, 68, ls, (.int x0 :: .ref a :: st), w) = zgd (zis w a 6) (zcl (zrun none (29, 0, [.ref a, .int x0, zJ], [], w)) (fun r => zrun none (81, 71, ls, r.1.toList ++ st, r.2))) := by
  refine (zE_ (i := .invokevirtual 29) (by decide +kernel) _ _ _).trans ?_
  show zres (zinv none 29 81 68 ls (.int x0 :: .ref a :: st) w) = _
  unfold zinv
  show zres (if zrc none 29 w (.ref a) = true then zcall 29 [.ref a, .int x0] st 81 68 ls w else none) = _
  by_cases hc : zis w a 6
  · rw [if_pos (zrc_is hc (by decide +kernel)), zgd_pos hc]
    exact zq_call hr (Nat.le_of_ble_eq_true rfl) rfl rfl
  · rw [zgd_neg hc, if_neg (fun q => hc (zrc_of q (by decide +kernel)))]
    rfl
theorem e81_71 (ls : List Value) (x : Int32) (w : zH) : zrun none (81, 71, ls, [.int x], w) = some (some (.int x), w) := by
  refine (zE_ (i := .ireturn) (by decide +kernel) _ _ _).trans ?_
  show zres (if narrow .int (.int x) = .int x then _ else none) = _
  rw [if_pos (show narrow .int (.int x) = .int x from rfl)]
  rfl
theorem e81_72 (v1 v2 v3 : Value) (x : Nat) (st : List Value) (w : zH) : zrun none (81, 72, [.ref x, v1, v2, v3], st, w) = zrun none (81, 73, [.ref x, v1, v2, v3], (.ref x :: st), w) := (zE_ (i := .aload_n 0) (by decide +kernel) _ _ _).trans rfl
theorem e81_73 (ls : List Value) (a : Nat) (st : List Value) (w : zH) : zrun none (81, 73, ls, (.ref a :: st), w) = zo (zf w a 1110) (fun x => zrun none (81, 76, ls, (x :: st), w)) := (zE_ (i := .getfield 1110) (by decide +kernel) _ _ _).trans zq_getf
theorem e81_76 (v0 v1 v2 : Value) (x : Nat) (st : List Value) (w : zH) : zrun none (81, 76, [v0, v1, v2, .ref x], st, w) = zrun none (81, 77, [v0, v1, v2, .ref x], (.ref x :: st), w) := (zE_ (i := .aload_n 3) (by decide +kernel) _ _ _).trans rfl
theorem e81_76n (v0 v1 v2 : Value) (st : List Value) (w : zH) : zrun none (81, 76, [v0, v1, v2, .null], st, w) = zrun none (81, 77, [v0, v1, v2, .null], (.null :: st), w) := (zE_ (i := .aload_n 3) (by decide +kernel) _ _ _).trans rfl
theorem e81_77 (ls : List Value) (a : Nat) (st : List Value) (w : zH) : zrun none (81, 77, ls, (.ref a :: st), w) = zo (zf w a 404) (fun x => zrun none (81, 80, ls, (x :: st), w)) := (zE_ (i := .getfield 404) (by decide +kernel) _ _ _).trans zq_getf
theorem e81_80 (ls : List Value) (a : Nat) (x0 : Int32) (st : List Value) (w : zH) (hr : zcat st ≤ 8) : zrun none (81, 80, ls, (.int x0 :: .ref a :: st), w) = zgd (zis w a 6) (zcl (zrun none (28, 0, [.ref a, .int x0, zJ, zJ], [], w)) (fun r => zrun none (81, 83, ls, r.1.toList ++ st, r.2))) := by
  refine (zE_ (i := .invokevirtual 28) (by decide +kernel) _ _ _).trans ?_
  show zres (zinv none 28 81 80 ls (.int x0 :: .ref a :: st) w) = _
  unfold zinv
  show zres (if zrc none 28 w (.ref a) = true then zcall 28 [.ref a, .int x0] st 81 80 ls w else none) = _
  by_cases hc : zis w a 6
  · rw [if_pos (zrc_is hc (by decide +kernel)), zgd_pos hc]
    exact zq_call hr (Nat.le_of_ble_eq_true rfl) rfl rfl
  · rw [zgd_neg hc, if_neg (fun q => hc (zrc_of q (by decide +kernel)))]
    rfl
theorem e81_83 (ls : List Value) (x : Int32) (w : zH) : zrun none (81, 83, ls, [.int x], w) = some (some (.int x), w) := by
  refine (zE_ (i := .ireturn) (by decide +kernel) _ _ _).trans ?_
  show zres (if narrow .int (.int x) = .int x then _ else none) = _
  rw [if_pos (show narrow .int (.int x) = .int x from rfl)]
  rfl
theorem e81_84 (ls st : List Value) (w : zH) : zrun none (81, 84, ls, st, w) = zrun none (81, 86, ls, (.int (-1000001) :: st), w) := (zE_ (i := .bipush (-1000001)) (by decide +kernel) _ _ _).trans rfl
theorem e81_86 (ls : List Value) (x : Int32) (w : zH) : zrun none (81, 86, ls, [.int x], w) = some (some (.int x), w) := by
  refine (zE_ (i := .ireturn) (by decide +kernel) _ _ _).trans ?_
  show zres (if narrow .int (.int x) = .int x then _ else none) = _
  rw [if_pos (show narrow .int (.int x) = .int x from rfl)]
  rfl
theorem e82_0 (v1 v2 v3 : Value) (x : Nat) (st : List Value) (w : zH) : zrun none (82, 0, [.ref x, v1, v2, v3], st, w) = zrun none (82, 1, [.ref x, v1, v2, v3], (.ref x :: st), w) := (zE_ (i := .aload_n 0) (by decide +kernel) _ _ _).trans rfl
theorem e82_1 (v0 v2 v3 : Value) (x : Int32) (st : List Value) (w : zH) : zrun none (82, 1, [v0, .int x, v2, v3], st, w) = zrun none (82, 2, [v0, .int x, v2, v3], (.int x :: st), w) := (zE_ (i := .iload_n 1) (by decide +kernel) _ _ _).trans rfl
theorem e82_2 (ls : List Value) (a : Nat) (x0 : Int32) (st : List Value) (w : zH) (hr : zcat st ≤ 8) : zrun none (82, 2, ls, (.int x0 :: .ref a :: st), w) = zgd (zis w a 11) (zcl (zrun none (112, 0, [.ref a, .int x0], [], w)) (fun r => zrun none (82, 5, ls, r.1.toList ++ st, r.2))) := by
  refine (zE_ (i := .invokevirtual 112) (by decide +kernel) _ _ _).trans ?_
  show zres (zinv none 112 82 2 ls (.int x0 :: .ref a :: st) w) = _
  unfold zinv
  show zres (if zrc none 112 w (.ref a) = true then zcall 112 [.ref a, .int x0] st 82 2 ls w else none) = _
  by_cases hc : zis w a 11
  · rw [if_pos (zrc_is hc (by decide +kernel)), zgd_pos hc]
    exact zq_call hr (Nat.le_of_ble_eq_true rfl) rfl rfl
  · rw [zgd_neg hc, if_neg (fun q => hc (zrc_of q (by decide +kernel)))]
    rfl
theorem e82_5 (v0 v1 v2 v3 : Value) (x : Nat) (st : List Value) (w : zH) (h : v2.category = 1) : zrun none (82, 5, [v0, v1, v2, v3], (.ref x :: st), w) = zrun none (82, 6, [v0, v1, v2, .ref x], st, w) := by
  refine (zE_ (i := .astore_n 3) (by decide +kernel) _ _ _).trans ?_
  have hz : zfree [v0, v1, v2, v3] 3 = true := by show decide (v2.category = 1) = true; exact decide_eq_true h
  show zres (zst zref 3 1 82 5 [v0, v1, v2, v3] (.ref x :: st) w) = _
  unfold zst
  dsimp only
  rw [if_pos ⟨rfl, Nat.le_of_ble_eq_true rfl, hz⟩]
  rfl
theorem e82_5n (v0 v1 v2 v3 : Value) (st : List Value) (w : zH) (h : v2.category = 1) : zrun none (82, 5, [v0, v1, v2, v3], (.null :: st), w) = zrun none (82, 6, [v0, v1, v2, .null], st, w) := by
  refine (zE_ (i := .astore_n 3) (by decide +kernel) _ _ _).trans ?_
  have hz : zfree [v0, v1, v2, v3] 3 = true := by show decide (v2.category = 1) = true; exact decide_eq_true h
  show zres (zst zref 3 1 82 5 [v0, v1, v2, v3] (.null :: st) w) = _
  unfold zst
  dsimp only
  rw [if_pos ⟨rfl, Nat.le_of_ble_eq_true rfl, hz⟩]
  rfl
theorem e82_6 (v0 v1 v2 : Value) (x : Nat) (st : List Value) (w : zH) : zrun none (82, 6, [v0, v1, v2, .ref x], st, w) = zrun none (82, 7, [v0, v1, v2, .ref x], (.ref x :: st), w) := (zE_ (i := .aload_n 3) (by decide +kernel) _ _ _).trans rfl
theorem e82_6n (v0 v1 v2 : Value) (st : List Value) (w : zH) : zrun none (82, 6, [v0, v1, v2, .null], st, w) = zrun none (82, 7, [v0, v1, v2, .null], (.null :: st), w) := (zE_ (i := .aload_n 3) (by decide +kernel) _ _ _).trans rfl
theorem e82_7n (ls st : List Value) (w : zH) : zrun none (82, 7, ls, (.null :: st), w) = zrun none (82, 10, ls, st, w) := (zE_ (i := .ifnonnull 6) (by decide +kernel) _ _ _).trans rfl
theorem e82_7 (ls : List Value) (a : Nat) (st : List Value) (w : zH) (h : a < zX) : zrun none (82, 7, ls, (.ref a :: st), w) = zrun none (82, 13, ls, st, w) := by
  refine (zE_ (i := .ifnonnull 6) (by decide +kernel) _ _ _).trans ?_
  simp only [zI, if_pos h]
  rfl
theorem e82_10 (ls st : List Value) (w : zH) : zrun none (82, 10, ls, st, w) = zrun none (82, 12, ls, (.int (-1000001) :: st), w) := (zE_ (i := .bipush (-1000001)) (by decide +kernel) _ _ _).trans rfl
theorem e82_12 (ls : List Value) (x : Int32) (w : zH) : zrun none (82, 12, ls, [.int x], w) = some (some (.int x), w) := by
  refine (zE_ (i := .ireturn) (by decide +kernel) _ _ _).trans ?_
  show zres (if narrow .int (.int x) = .int x then _ else none) = _
  rw [if_pos (show narrow .int (.int x) = .int x from rfl)]
  rfl
theorem e82_13 (v1 v2 v3 : Value) (x : Nat) (st : List Value) (w : zH) : zrun none (82, 13, [.ref x, v1, v2, v3], st, w) = zrun none (82, 14, [.ref x, v1, v2, v3], (.ref x :: st), w) := (zE_ (i := .aload_n 0) (by decide +kernel) _ _ _).trans rfl
theorem e82_14 (ls : List Value) (a : Nat) (st : List Value) (w : zH) : zrun none (82, 14, ls, (.ref a :: st), w) = zo (zf w a 1110) (fun x => zrun none (82, 17, ls, (x :: st), w)) := (zE_ (i := .getfield 1110) (by decide +kernel) _ _ _).trans zq_getf
theorem e82_17 (v0 v1 v2 : Value) (x : Nat) (st : List Value) (w : zH) : zrun none (82, 17, [v0, v1, v2, .ref x], st, w) = zrun none (82, 18, [v0, v1, v2, .ref x], (.ref x :: st), w) := (zE_ (i := .aload_n 3) (by decide +kernel) _ _ _).trans rfl
theorem e82_17n (v0 v1 v2 : Value) (st : List Value) (w : zH) : zrun none (82, 17, [v0, v1, v2, .null], st, w) = zrun none (82, 18, [v0, v1, v2, .null], (.null :: st), w) := (zE_ (i := .aload_n 3) (by decide +kernel) _ _ _).trans rfl
theorem e82_18 (ls : List Value) (a : Nat) (st : List Value) (w : zH) : zrun none (82, 18, ls, (.ref a :: st), w) = zo (zf w a 404) (fun x => zrun none (82, 21, ls, (x :: st), w)) := (zE_ (i := .getfield 404) (by decide +kernel) _ _ _).trans zq_getf
theorem e82_21 (v0 v1 v3 : Value) (x : Int32) (st : List Value) (w : zH) : zrun none (82, 21, [v0, v1, .int x, v3], st, w) = zrun none (82, 22, [v0, v1, .int x, v3], (.int x :: st), w) := (zE_ (i := .iload_n 2) (by decide +kernel) _ _ _).trans rfl
theorem e82_22 (ls : List Value) (a : Nat) (x0 : Int32) (x1 : Int32) (st : List Value) (w : zH) (hr : zcat st ≤ 8) : zrun none (82, 22, ls, (.int x1 :: .int x0 :: .ref a :: st), w) = zgd (zis w a 6) (zcl (zrun none (31, 0, [.ref a, .int x0, .int x1, zJ, zJ], [], w)) (fun r => zrun none (82, 25, ls, r.1.toList ++ st, r.2))) := by
  refine (zE_ (i := .invokevirtual 31) (by decide +kernel) _ _ _).trans ?_
  show zres (zinv none 31 82 22 ls (.int x1 :: .int x0 :: .ref a :: st) w) = _
  unfold zinv
  show zres (if zrc none 31 w (.ref a) = true then zcall 31 [.ref a, .int x0, .int x1] st 82 22 ls w else none) = _
  by_cases hc : zis w a 6
  · rw [if_pos (zrc_is hc (by decide +kernel)), zgd_pos hc]
    exact zq_call hr (Nat.le_of_ble_eq_true rfl) rfl rfl
  · rw [zgd_neg hc, if_neg (fun q => hc (zrc_of q (by decide +kernel)))]
    rfl
theorem e82_25 (ls : List Value) (x : Int32) (w : zH) : zrun none (82, 25, ls, [.int x], w) = some (some (.int x), w) := by
  refine (zE_ (i := .ireturn) (by decide +kernel) _ _ _).trans ?_
  show zres (if narrow .int (.int x) = .int x then _ else none) = _
  rw [if_pos (show narrow .int (.int x) = .int x from rfl)]
  rfl
theorem e83_0 (v1 v2 v3 : Value) (x : Nat) (st : List Value) (w : zH) : zrun none (83, 0, [.ref x, v1, v2, v3], st, w) = zrun none (83, 1, [.ref x, v1, v2, v3], (.ref x :: st), w) := (zE_ (i := .aload_n 0) (by decide +kernel) _ _ _).trans rfl
theorem e83_1 (v0 v2 v3 : Value) (x : Int32) (st : List Value) (w : zH) : zrun none (83, 1, [v0, .int x, v2, v3], st, w) = zrun none (83, 2, [v0, .int x, v2, v3], (.int x :: st), w) := (zE_ (i := .iload_n 1) (by decide +kernel) _ _ _).trans rfl
theorem e83_2 (ls : List Value) (a : Nat) (x0 : Int32) (st : List Value) (w : zH) (hr : zcat st ≤ 8) : zrun none (83, 2, ls, (.int x0 :: .ref a :: st), w) = zgd (zis w a 11) (zcl (zrun none (111, 0, [.ref a, .int x0], [], w)) (fun r => zrun none (83, 5, ls, r.1.toList ++ st, r.2))) := by
  refine (zE_ (i := .invokevirtual 111) (by decide +kernel) _ _ _).trans ?_
  show zres (zinv none 111 83 2 ls (.int x0 :: .ref a :: st) w) = _
  unfold zinv
  show zres (if zrc none 111 w (.ref a) = true then zcall 111 [.ref a, .int x0] st 83 2 ls w else none) = _
  by_cases hc : zis w a 11
  · rw [if_pos (zrc_is hc (by decide +kernel)), zgd_pos hc]
    exact zq_call hr (Nat.le_of_ble_eq_true rfl) rfl rfl
  · rw [zgd_neg hc, if_neg (fun q => hc (zrc_of q (by decide +kernel)))]
    rfl
theorem e83_5n (ls st : List Value) (w : zH) : zrun none (83, 5, ls, (.null :: st), w) = zrun none (83, 22, ls, st, w) := (zE_ (i := .ifnull 17) (by decide +kernel) _ _ _).trans rfl
theorem e83_5 (ls : List Value) (a : Nat) (st : List Value) (w : zH) (h : a < zX) : zrun none (83, 5, ls, (.ref a :: st), w) = zrun none (83, 8, ls, st, w) := by
  refine (zE_ (i := .ifnull 17) (by decide +kernel) _ _ _).trans ?_
  simp only [zI, if_pos h]
  rfl
theorem e83_8 (v0 v1 v3 : Value) (x : Int32) (st : List Value) (w : zH) : zrun none (83, 8, [v0, v1, .int x, v3], st, w) = zrun none (83, 9, [v0, v1, .int x, v3], (.int x :: st), w) := (zE_ (i := .iload_n 2) (by decide +kernel) _ _ _).trans rfl
theorem e83_9 (ls : List Value) (x0 : Int32) (st : List Value) (w : zH) (hr : zcat st ≤ 8) : zrun none (83, 9, ls, (.int x0 :: st), w) = zcl (zrun none (103, 0, [.int x0], [], w)) (fun r => zrun none (83, 12, ls, r.1.toList ++ st, r.2)) := by
  refine (zE_ (i := .invokestatic 103) (by decide +kernel) _ _ _).trans ?_
  show zres (if (99 : Nat) = 99 ∧ 1 ≤ ((.int x0 :: st) : List Value).length then zcall 103 [.int x0] st 83 9 ls w else none) = _
  rw [if_pos ⟨rfl, by simp⟩]
  exact zq_call hr (Nat.le_of_ble_eq_true rfl) rfl rfl
theorem e83_12 (ls : List Value) (a : Int32) (st : List Value) (w : zH) : zrun none (83, 12, ls, (.int a :: st), w) = if a = 0 then zrun none (83, 22, ls, st, w) else zrun none (83, 15, ls, st, w) := (zE_ (i := .ifCond .eq 10) (by decide +kernel) _ _ _).trans (zq_if_eq rfl rfl)
theorem e83_15 (v0 v1 v2 : Value) (x : Int32) (st : List Value) (w : zH) : zrun none (83, 15, [v0, v1, v2, .int x], st, w) = zrun none (83, 16, [v0, v1, v2, .int x], (.int x :: st), w) := (zE_ (i := .iload_n 3) (by decide +kernel) _ _ _).trans rfl
theorem e83_16 (ls : List Value) (x0 : Int32) (st : List Value) (w : zH) (hr : zcat st ≤ 8) : zrun none (83, 16, ls, (.int x0 :: st), w) = zcl (zrun none (101, 0, [.int x0], [], w)) (fun r => zrun none (83, 19, ls, r.1.toList ++ st, r.2)) := by
  refine (zE_ (i := .invokestatic 101) (by decide +kernel) _ _ _).trans ?_
  show zres (if (99 : Nat) = 99 ∧ 1 ≤ ((.int x0 :: st) : List Value).length then zcall 101 [.int x0] st 83 16 ls w else none) = _
  rw [if_pos ⟨rfl, by simp⟩]
  exact zq_call hr (Nat.le_of_ble_eq_true rfl) rfl rfl
theorem e83_19 (ls : List Value) (a : Int32) (st : List Value) (w : zH) : zrun none (83, 19, ls, (.int a :: st), w) = if a = 0 then zrun none (83, 22, ls, st, w) else zrun none (83, 25, ls, st, w) := (zE_ (i := .ifCond .ne 6) (by decide +kernel) _ _ _).trans (zq_if_ne rfl rfl)
theorem e83_22 (ls st : List Value) (w : zH) : zrun none (83, 22, ls, st, w) = zrun none (83, 24, ls, (.int (-1000001) :: st), w) := (zE_ (i := .bipush (-1000001)) (by decide +kernel) _ _ _).trans rfl
theorem e83_24 (ls : List Value) (x : Int32) (w : zH) : zrun none (83, 24, ls, [.int x], w) = some (some (.int x), w) := by
  refine (zE_ (i := .ireturn) (by decide +kernel) _ _ _).trans ?_
  show zres (if narrow .int (.int x) = .int x then _ else none) = _
  rw [if_pos (show narrow .int (.int x) = .int x from rfl)]
  rfl
theorem e83_25 (v1 v2 v3 : Value) (x : Nat) (st : List Value) (w : zH) : zrun none (83, 25, [.ref x, v1, v2, v3], st, w) = zrun none (83, 26, [.ref x, v1, v2, v3], (.ref x :: st), w) := (zE_ (i := .aload_n 0) (by decide +kernel) _ _ _).trans rfl
theorem e83_26 (ls : List Value) (a : Nat) (st : List Value) (w : zH) : zrun none (83, 26, ls, (.ref a :: st), w) = zo (zf w a 1112) (fun x => zrun none (83, 29, ls, (x :: st), w)) := (zE_ (i := .getfield 1112) (by decide +kernel) _ _ _).trans zq_getf
theorem e83_29 (ls st : List Value) (w : zH) : zrun none (83, 29, ls, st, w) = zrun none (83, 31, ls, (.int 20 :: st), w) := (zE_ (i := .bipush 20) (by decide +kernel) _ _ _).trans rfl
theorem e83_31 (ls : List Value) (a b : Int32) (st : List Value) (w : zH) : zrun none (83, 31, ls, (.int b :: .int a :: st), w) = if a < b then zrun none (83, 37, ls, st, w) else zrun none (83, 34, ls, st, w) := (zE_ (i := .if_icmp .lt 6) (by decide +kernel) _ _ _).trans (zq_ic_lt rfl rfl)
theorem e83_34 (ls st : List Value) (w : zH) : zrun none (83, 34, ls, st, w) = zrun none (83, 36, ls, (.int (-1000003) :: st), w) := (zE_ (i := .bipush (-1000003)) (by decide +kernel) _ _ _).trans rfl
theorem e83_36 (ls : List Value) (x : Int32) (w : zH) : zrun none (83, 36, ls, [.int x], w) = some (some (.int x), w) := by
  refine (zE_ (i := .ireturn) (by decide +kernel) _ _ _).trans ?_
  show zres (if narrow .int (.int x) = .int x then _ else none) = _
  rw [if_pos (show narrow .int (.int x) = .int x from rfl)]
  rfl
theorem e83_37 (v1 v2 v3 : Value) (x : Nat) (st : List Value) (w : zH) : zrun none (83, 37, [.ref x, v1, v2, v3], st, w) = zrun none (83, 38, [.ref x, v1, v2, v3], (.ref x :: st), w) := (zE_ (i := .aload_n 0) (by decide +kernel) _ _ _).trans rfl
theorem e83_38 (ls : List Value) (a : Nat) (st : List Value) (w : zH) : zrun none (83, 38, ls, (.ref a :: st), w) = zo (zf w a 1111) (fun x => zrun none (83, 41, ls, (x :: st), w)) := (zE_ (i := .getfield 1111) (by decide +kernel) _ _ _).trans zq_getf
theorem e83_41 (v1 v2 v3 : Value) (x : Nat) (st : List Value) (w : zH) : zrun none (83, 41, [.ref x, v1, v2, v3], st, w) = zrun none (83, 42, [.ref x, v1, v2, v3], (.ref x :: st), w) := (zE_ (i := .aload_n 0) (by decide +kernel) _ _ _).trans rfl
theorem e83_42 (ls : List Value) (a : Nat) (st : List Value) (w : zH) : zrun none (83, 42, ls, (.ref a :: st), w) = zo (zf w a 1112) (fun x => zrun none (83, 45, ls, (x :: st), w)) := (zE_ (i := .getfield 1112) (by decide +kernel) _ _ _).trans zq_getf
theorem e83_45 (ls st : List Value) (w : zH) : zrun none (83, 45, ls, st, w) = zgd (w.length + 1 < zX) (zrun none (83, 48, ls, (.ref w.length :: st), w ++ [(10, [.int 0, .int 0, .int 0])])) := by
  refine (zE_ (i := .new 10) (by decide +kernel) _ _ _).trans ?_
  simp only [zI]
  rw [if_pos (by decide)]
  unfold znw
  by_cases h : w.length + 1 < zX
  · rw [if_pos h, zgd_pos h]
    rfl
  · rw [if_neg h, zgd_neg h]
    rfl
theorem e83_48 (ls : List Value) (x : Int32) (st : List Value) (w : zH) : zrun none (83, 48, ls, (.int x :: st), w) = zrun none (83, 49, ls, (.int x :: .int x :: st), w) := (zE_ (i := .dup) (by decide +kernel) _ _ _).trans rfl
theorem e83_48r (ls : List Value) (x : Nat) (st : List Value) (w : zH) : zrun none (83, 48, ls, (.ref x :: st), w) = zrun none (83, 49, ls, (.ref x :: .ref x :: st), w) := (zE_ (i := .dup) (by decide +kernel) _ _ _).trans rfl
theorem e83_49 (v0 v2 v3 : Value) (x : Int32) (st : List Value) (w : zH) : zrun none (83, 49, [v0, .int x, v2, v3], st, w) = zrun none (83, 50, [v0, .int x, v2, v3], (.int x :: st), w) := (zE_ (i := .iload_n 1) (by decide +kernel) _ _ _).trans rfl
theorem e83_50 (v0 v1 v3 : Value) (x : Int32) (st : List Value) (w : zH) : zrun none (83, 50, [v0, v1, .int x, v3], st, w) = zrun none (83, 51, [v0, v1, .int x, v3], (.int x :: st), w) := (zE_ (i := .iload_n 2) (by decide +kernel) _ _ _).trans rfl
theorem e83_51 (v0 v1 v2 : Value) (x : Int32) (st : List Value) (w : zH) : zrun none (83, 51, [v0, v1, v2, .int x], st, w) = zrun none (83, 52, [v0, v1, v2, .int x], (.int x :: st), w) := (zE_ (i := .iload_n 3) (by decide +kernel) _ _ _).trans rfl
theorem e83_52 (ls : List Value) (a : Nat) (x0 : Int32) (x1 : Int32) (x2 : Int32) (st : List Value) (w : zH) (hr : zcat st ≤ 8) : zrun none (83, 52, ls, (.int x2 :: .int x1 :: .int x0 :: .ref a :: st), w) = zgd (zis w a 10) (zcl (zrun none (63, 0, [.ref a, .int x0, .int x1, .int x2], [], w)) (fun r => zrun none (83, 55, ls, r.1.toList ++ st, r.2))) := by
  refine (zE_ (i := .invokespecial 63) (by decide +kernel) _ _ _).trans ?_
  show zres (zinv none 63 83 52 ls (.int x2 :: .int x1 :: .int x0 :: .ref a :: st) w) = _
  unfold zinv
  show zres (if zrc none 63 w (.ref a) = true then zcall 63 [.ref a, .int x0, .int x1, .int x2] st 83 52 ls w else none) = _
  by_cases hc : zis w a 10
  · rw [if_pos (zrc_is hc (by decide +kernel)), zgd_pos hc]
    exact zq_call hr (Nat.le_of_ble_eq_true rfl) rfl rfl
  · rw [zgd_neg hc, if_neg (fun q => hc (zrc_of q (by decide +kernel)))]
    rfl
theorem e83_55 (ls : List Value) (v : Value) (j : Int32) (a : Nat) (st : List Value) (w : zH) : zrun none (83, 55, ls, (v :: .int j :: .ref a :: st), w) = zgd (zaq w a j v) (zrun none (83, 56, ls, st, zas w a j v)) := by
  refine (zE_ (i := .aastore) (by decide +kernel) _ _ _).trans ?_
  by_cases hg : zaq w a j v
  · rw [zgd_pos hg]
    obtain ⟨k, h1, h2⟩ := hg
    exact zq_aast h1 h2
  · rw [zgd_neg hg]
    exact zq_aast_no hg
theorem e83_56 (v1 v2 v3 : Value) (x : Nat) (st : List Value) (w : zH) : zrun none (83, 56, [.ref x, v1, v2, v3], st, w) = zrun none (83, 57, [.ref x, v1, v2, v3], (.ref x :: st), w) := (zE_ (i := .aload_n 0) (by decide +kernel) _ _ _).trans rfl
theorem e83_57 (ls : List Value) (x : Int32) (st : List Value) (w : zH) : zrun none (83, 57, ls, (.int x :: st), w) = zrun none (83, 58, ls, (.int x :: .int x :: st), w) := (zE_ (i := .dup) (by decide +kernel) _ _ _).trans rfl
theorem e83_57r (ls : List Value) (x : Nat) (st : List Value) (w : zH) : zrun none (83, 57, ls, (.ref x :: st), w) = zrun none (83, 58, ls, (.ref x :: .ref x :: st), w) := (zE_ (i := .dup) (by decide +kernel) _ _ _).trans rfl
theorem e83_58 (ls : List Value) (a : Nat) (st : List Value) (w : zH) : zrun none (83, 58, ls, (.ref a :: st), w) = zo (zf w a 1112) (fun x => zrun none (83, 61, ls, (x :: st), w)) := (zE_ (i := .getfield 1112) (by decide +kernel) _ _ _).trans zq_getf
theorem e83_61 (ls : List Value) (x : Int32) (a : Nat) (st : List Value) (w : zH) : zrun none (83, 61, ls, (.int x :: .ref a :: st), w) = zrun none (83, 62, ls, (.int x :: .ref a :: .int x :: st), w) := (zE_ (i := .dup_x1) (by decide +kernel) _ _ _).trans rfl
theorem e83_62 (ls st : List Value) (w : zH) : zrun none (83, 62, ls, st, w) = zrun none (83, 63, ls, (.int 1 :: st), w) := (zE_ (i := .iconst 1) (by decide +kernel) _ _ _).trans rfl
theorem e83_63 (ls : List Value) (a b : Int32) (st : List Value) (w : zH) : zrun none (83, 63, ls, (.int b :: .int a :: st), w) = zrun none (83, 64, ls, (.int (a + b) :: st), w) := (zE_ (i := .iadd) (by decide +kernel) _ _ _).trans rfl
theorem e83_64 (ls : List Value) (x : Int32) (a : Nat) (st : List Value) (w : zH) : zrun none (83, 64, ls, (.int x :: .ref a :: st), w) = zgd (a < zX ∧ (zf w a 1112).isSome = true) (zrun none (83, 67, ls, st, zpf w a 1112 (.int x))) := by
  refine (zE_ (i := .putfield 1112) (by decide +kernel) _ _ _).trans ?_
  by_cases hg : a < zX ∧ (zf w a 1112).isSome = true
  · rw [zgd_pos hg]
    obtain ⟨ha, h⟩ := hg
    exact zq_putf ha h rfl rfl
  · rw [zgd_neg hg]
    exact zq_putf_no (fun h1 h2 h3 => hg ⟨h1, h2⟩)
theorem e83_67 (ls : List Value) (x : Int32) (w : zH) : zrun none (83, 67, ls, [.int x], w) = some (some (.int x), w) := by
  refine (zE_ (i := .ireturn) (by decide +kernel) _ _ _).trans ?_
  show zres (if narrow .int (.int x) = .int x then _ else none) = _
  rw [if_pos (show narrow .int (.int x) = .int x from rfl)]
  rfl
theorem e84_0 (v1 v2 v3 v4 : Value) (x : Nat) (st : List Value) (w : zH) : zrun none (84, 0, [.ref x, v1, v2, v3, v4], st, w) = zrun none (84, 1, [.ref x, v1, v2, v3, v4], (.ref x :: st), w) := (zE_ (i := .aload_n 0) (by decide +kernel) _ _ _).trans rfl
theorem e84_1 (v0 v2 v3 v4 : Value) (x : Int32) (st : List Value) (w : zH) : zrun none (84, 1, [v0, .int x, v2, v3, v4], st, w) = zrun none (84, 2, [v0, .int x, v2, v3, v4], (.int x :: st), w) := (zE_ (i := .iload_n 1) (by decide +kernel) _ _ _).trans rfl
theorem e84_2 (ls : List Value) (a : Nat) (x0 : Int32) (st : List Value) (w : zH) (hr : zcat st ≤ 8) : zrun none (84, 2, ls, (.int x0 :: .ref a :: st), w) = zgd (zis w a 11) (zcl (zrun none (113, 0, [.ref a, .int x0], [], w)) (fun r => zrun none (84, 5, ls, r.1.toList ++ st, r.2))) := by
  refine (zE_ (i := .invokevirtual 113) (by decide +kernel) _ _ _).trans ?_
  show zres (zinv none 113 84 2 ls (.int x0 :: .ref a :: st) w) = _
  unfold zinv
  show zres (if zrc none 113 w (.ref a) = true then zcall 113 [.ref a, .int x0] st 84 2 ls w else none) = _
  by_cases hc : zis w a 11
  · rw [if_pos (zrc_is hc (by decide +kernel)), zgd_pos hc]
    exact zq_call hr (Nat.le_of_ble_eq_true rfl) rfl rfl
  · rw [zgd_neg hc, if_neg (fun q => hc (zrc_of q (by decide +kernel)))]
    rfl
theorem e84_5 (v0 v1 v2 v3 v4 : Value) (x : Nat) (st : List Value) (w : zH) (h : v2.category = 1) : zrun none (84, 5, [v0, v1, v2, v3, v4], (.ref x :: st), w) = zrun none (84, 6, [v0, v1, v2, .ref x, v4], st, w) := by
  refine (zE_ (i := .astore_n 3) (by decide +kernel) _ _ _).trans ?_
  have hz : zfree [v0, v1, v2, v3, v4] 3 = true := by show decide (v2.category = 1) = true; exact decide_eq_true h
  show zres (zst zref 3 1 84 5 [v0, v1, v2, v3, v4] (.ref x :: st) w) = _
  unfold zst
  dsimp only
  rw [if_pos ⟨rfl, Nat.le_of_ble_eq_true rfl, hz⟩]
  rfl
theorem e84_5n (v0 v1 v2 v3 v4 : Value) (st : List Value) (w : zH) (h : v2.category = 1) : zrun none (84, 5, [v0, v1, v2, v3, v4], (.null :: st), w) = zrun none (84, 6, [v0, v1, v2, .null, v4], st, w) := by
  refine (zE_ (i := .astore_n 3) (by decide +kernel) _ _ _).trans ?_
  have hz : zfree [v0, v1, v2, v3, v4] 3 = true := by show decide (v2.category = 1) = true; exact decide_eq_true h
  show zres (zst zref 3 1 84 5 [v0, v1, v2, v3, v4] (.null :: st) w) = _
  unfold zst
  dsimp only
  rw [if_pos ⟨rfl, Nat.le_of_ble_eq_true rfl, hz⟩]
  rfl
theorem e84_6 (v0 v1 v2 v4 : Value) (x : Nat) (st : List Value) (w : zH) : zrun none (84, 6, [v0, v1, v2, .ref x, v4], st, w) = zrun none (84, 7, [v0, v1, v2, .ref x, v4], (.ref x :: st), w) := (zE_ (i := .aload_n 3) (by decide +kernel) _ _ _).trans rfl
theorem e84_6n (v0 v1 v2 v4 : Value) (st : List Value) (w : zH) : zrun none (84, 6, [v0, v1, v2, .null, v4], st, w) = zrun none (84, 7, [v0, v1, v2, .null, v4], (.null :: st), w) := (zE_ (i := .aload_n 3) (by decide +kernel) _ _ _).trans rfl
theorem e84_7n (ls st : List Value) (w : zH) : zrun none (84, 7, ls, (.null :: st), w) = zrun none (84, 19, ls, st, w) := (zE_ (i := .ifnull 12) (by decide +kernel) _ _ _).trans rfl
theorem e84_7 (ls : List Value) (a : Nat) (st : List Value) (w : zH) (h : a < zX) : zrun none (84, 7, ls, (.ref a :: st), w) = zrun none (84, 10, ls, st, w) := by
  refine (zE_ (i := .ifnull 12) (by decide +kernel) _ _ _).trans ?_
  simp only [zI, if_pos h]
  rfl
theorem e84_10 (v0 v1 v3 v4 : Value) (x : Int32) (st : List Value) (w : zH) : zrun none (84, 10, [v0, v1, .int x, v3, v4], st, w) = zrun none (84, 11, [v0, v1, .int x, v3, v4], (.int x :: st), w) := (zE_ (i := .iload_n 2) (by decide +kernel) _ _ _).trans rfl
theorem e84_11 (ls st : List Value) (w : zH) : zrun none (84, 11, ls, st, w) = zrun none (84, 12, ls, (.int 0 :: st), w) := (zE_ (i := .iconst 0) (by decide +kernel) _ _ _).trans rfl
theorem e84_12 (ls st : List Value) (w : zH) : zrun none (84, 12, ls, st, w) = zrun none (84, 13, ls, (.int 1 :: st), w) := (zE_ (i := .iconst 1) (by decide +kernel) _ _ _).trans rfl
theorem e84_13 (ls : List Value) (x0 : Int32) (x1 : Int32) (x2 : Int32) (st : List Value) (w : zH) (hr : zcat st ≤ 8) : zrun none (84, 13, ls, (.int x2 :: .int x1 :: .int x0 :: st), w) = zcl (zrun none (100, 0, [.int x0, .int x1, .int x2], [], w)) (fun r => zrun none (84, 16, ls, r.1.toList ++ st, r.2)) := by
  refine (zE_ (i := .invokestatic 100) (by decide +kernel) _ _ _).trans ?_
  show zres (if (99 : Nat) = 99 ∧ 3 ≤ ((.int x2 :: .int x1 :: .int x0 :: st) : List Value).length then zcall 100 [.int x0, .int x1, .int x2] st 84 13 ls w else none) = _
  rw [if_pos ⟨rfl, by simp⟩]
  exact zq_call hr (Nat.le_of_ble_eq_true rfl) rfl rfl
theorem e84_16 (ls : List Value) (a : Int32) (st : List Value) (w : zH) : zrun none (84, 16, ls, (.int a :: st), w) = if a = 0 then zrun none (84, 19, ls, st, w) else zrun none (84, 22, ls, st, w) := (zE_ (i := .ifCond .ne 6) (by decide +kernel) _ _ _).trans (zq_if_ne rfl rfl)
theorem e84_19 (ls st : List Value) (w : zH) : zrun none (84, 19, ls, st, w) = zrun none (84, 21, ls, (.int (-1000001) :: st), w) := (zE_ (i := .bipush (-1000001)) (by decide +kernel) _ _ _).trans rfl
theorem e84_21 (ls : List Value) (x : Int32) (w : zH) : zrun none (84, 21, ls, [.int x], w) = some (some (.int x), w) := by
  refine (zE_ (i := .ireturn) (by decide +kernel) _ _ _).trans ?_
  show zres (if narrow .int (.int x) = .int x then _ else none) = _
  rw [if_pos (show narrow .int (.int x) = .int x from rfl)]
  rfl
theorem e84_22 (v1 v2 v3 v4 : Value) (x : Nat) (st : List Value) (w : zH) : zrun none (84, 22, [.ref x, v1, v2, v3, v4], st, w) = zrun none (84, 23, [.ref x, v1, v2, v3, v4], (.ref x :: st), w) := (zE_ (i := .aload_n 0) (by decide +kernel) _ _ _).trans rfl
theorem e84_23 (v0 v1 v2 v4 : Value) (x : Nat) (st : List Value) (w : zH) : zrun none (84, 23, [v0, v1, v2, .ref x, v4], st, w) = zrun none (84, 24, [v0, v1, v2, .ref x, v4], (.ref x :: st), w) := (zE_ (i := .aload_n 3) (by decide +kernel) _ _ _).trans rfl
theorem e84_23n (v0 v1 v2 v4 : Value) (st : List Value) (w : zH) : zrun none (84, 23, [v0, v1, v2, .null, v4], st, w) = zrun none (84, 24, [v0, v1, v2, .null, v4], (.null :: st), w) := (zE_ (i := .aload_n 3) (by decide +kernel) _ _ _).trans rfl
theorem e84_24 (ls : List Value) (a : Nat) (x0 : Nat) (st : List Value) (w : zH) (hr : zcat st ≤ 8) : zrun none (84, 24, ls, (.ref x0 :: .ref a :: st), w) = zgd (zis w a 11) (zcl (zrun none (125, 0, [.ref a, .ref x0, zJ, zJ, zJ, zJ], [], w)) (fun r => zrun none (84, 27, ls, r.1.toList ++ st, r.2))) := by
  refine (zE_ (i := .invokevirtual 125) (by decide +kernel) _ _ _).trans ?_
  show zres (zinv none 125 84 24 ls (.ref x0 :: .ref a :: st) w) = _
  unfold zinv
  show zres (if zrc none 125 w (.ref a) = true then zcall 125 [.ref a, .ref x0] st 84 24 ls w else none) = _
  by_cases hc : zis w a 11
  · rw [if_pos (zrc_is hc (by decide +kernel)), zgd_pos hc]
    exact zq_call hr (Nat.le_of_ble_eq_true rfl) rfl rfl
  · rw [zgd_neg hc, if_neg (fun q => hc (zrc_of q (by decide +kernel)))]
    rfl
theorem e84_27 (v0 v1 v2 v3 v4 : Value) (x : Int32) (st : List Value) (w : zH) (h : v3.category = 1) : zrun none (84, 27, [v0, v1, v2, v3, v4], (.int x :: st), w) = zrun none (84, 29, [v0, v1, v2, v3, .int x], st, w) := by
  refine (zE_ (i := .istore 4) (by decide +kernel) _ _ _).trans ?_
  have hz : zfree [v0, v1, v2, v3, v4] 4 = true := by show decide (v3.category = 1) = true; exact decide_eq_true h
  show zres (zst zint 4 2 84 27 [v0, v1, v2, v3, v4] (.int x :: st) w) = _
  unfold zst
  dsimp only
  rw [if_pos ⟨rfl, Nat.le_of_ble_eq_true rfl, hz⟩]
  rfl
theorem e84_29 (v0 v1 v3 v4 : Value) (x : Int32) (st : List Value) (w : zH) : zrun none (84, 29, [v0, v1, .int x, v3, v4], st, w) = zrun none (84, 30, [v0, v1, .int x, v3, v4], (.int x :: st), w) := (zE_ (i := .iload_n 2) (by decide +kernel) _ _ _).trans rfl
theorem e84_30 (ls : List Value) (a : Int32) (st : List Value) (w : zH) : zrun none (84, 30, ls, (.int a :: st), w) = if a = 0 then zrun none (84, 33, ls, st, w) else zrun none (84, 38, ls, st, w) := (zE_ (i := .ifCond .ne 8) (by decide +kernel) _ _ _).trans (zq_if_ne rfl rfl)
theorem e84_33 (v0 v1 v2 v3 : Value) (x : Int32) (st : List Value) (w : zH) : zrun none (84, 33, [v0, v1, v2, v3, .int x], st, w) = zrun none (84, 35, [v0, v1, v2, v3, .int x], (.int x :: st), w) := (zE_ (i := .iload 4) (by decide +kernel) _ _ _).trans rfl
theorem e84_35 (ls st : List Value) (w : zH) : zrun none (84, 35, ls, st, w) = zrun none (84, 48, ls, st, w) := (zE_ (i := .goto 13) (by decide +kernel) _ _ _).trans rfl
theorem e84_38 (v1 v2 v3 v4 : Value) (x : Nat) (st : List Value) (w : zH) : zrun none (84, 38, [.ref x, v1, v2, v3, v4], st, w) = zrun none (84, 39, [.ref x, v1, v2, v3, v4], (.ref x :: st), w) := (zE_ (i := .aload_n 0) (by decide +kernel) _ _ _).trans rfl
theorem e84_39 (v0 v1 v2 v4 : Value) (x : Nat) (st : List Value) (w : zH) : zrun none (84, 39, [v0, v1, v2, .ref x, v4], st, w) = zrun none (84, 40, [v0, v1, v2, .ref x, v4], (.ref x :: st), w) := (zE_ (i := .aload_n 3) (by decide +kernel) _ _ _).trans rfl
theorem e84_39n (v0 v1 v2 v4 : Value) (st : List Value) (w : zH) : zrun none (84, 39, [v0, v1, v2, .null, v4], st, w) = zrun none (84, 40, [v0, v1, v2, .null, v4], (.null :: st), w) := (zE_ (i := .aload_n 3) (by decide +kernel) _ _ _).trans rfl
theorem e84_40 (v0 v1 v2 v3 : Value) (x : Int32) (st : List Value) (w : zH) : zrun none (84, 40, [v0, v1, v2, v3, .int x], st, w) = zrun none (84, 42, [v0, v1, v2, v3, .int x], (.int x :: st), w) := (zE_ (i := .iload 4) (by decide +kernel) _ _ _).trans rfl
theorem e84_42 (ls : List Value) (a : Nat) (x0 : Nat) (x1 : Int32) (st : List Value) (w : zH) (hr : zcat st ≤ 8) : zrun none (84, 42, ls, (.int x1 :: .ref x0 :: .ref a :: st), w) = zgd (zis w a 11) (zcl (zrun none (126, 0, [.ref a, .ref x0, .int x1, zJ], [], w)) (fun r => zrun none (84, 45, ls, r.1.toList ++ st, r.2))) := by
  refine (zE_ (i := .invokevirtual 126) (by decide +kernel) _ _ _).trans ?_
  show zres (zinv none 126 84 42 ls (.int x1 :: .ref x0 :: .ref a :: st) w) = _
  unfold zinv
  show zres (if zrc none 126 w (.ref a) = true then zcall 126 [.ref a, .ref x0, .int x1] st 84 42 ls w else none) = _
  by_cases hc : zis w a 11
  · rw [if_pos (zrc_is hc (by decide +kernel)), zgd_pos hc]
    exact zq_call hr (Nat.le_of_ble_eq_true rfl) rfl rfl
  · rw [zgd_neg hc, if_neg (fun q => hc (zrc_of q (by decide +kernel)))]
    rfl
theorem e84_45 (ls : List Value) (x0 : Int32) (st : List Value) (w : zH) (hr : zcat st ≤ 8) : zrun none (84, 45, ls, (.int x0 :: st), w) = zcl (zrun none (108, 0, [.int x0], [], w)) (fun r => zrun none (84, 48, ls, r.1.toList ++ st, r.2)) := by
  refine (zE_ (i := .invokestatic 108) (by decide +kernel) _ _ _).trans ?_
  show zres (if (99 : Nat) = 99 ∧ 1 ≤ ((.int x0 :: st) : List Value).length then zcall 108 [.int x0] st 84 45 ls w else none) = _
  rw [if_pos ⟨rfl, by simp⟩]
  exact zq_call hr (Nat.le_of_ble_eq_true rfl) rfl rfl
theorem e84_48 (ls : List Value) (x : Int32) (w : zH) : zrun none (84, 48, ls, [.int x], w) = some (some (.int x), w) := by
  refine (zE_ (i := .ireturn) (by decide +kernel) _ _ _).trans ?_
  show zres (if narrow .int (.int x) = .int x then _ else none) = _
  rw [if_pos (show narrow .int (.int x) = .int x from rfl)]
  rfl
theorem e85_0 (v0 v2 : Value) (x : Int32) (st : List Value) (w : zH) : zrun none (85, 0, [v0, .int x, v2], st, w) = zrun none (85, 1, [v0, .int x, v2], (.int x :: st), w) := (zE_ (i := .iload_n 1) (by decide +kernel) _ _ _).trans rfl
theorem e85_1 (ls st : List Value) (w : zH) : zrun none (85, 1, ls, st, w) = zrun none (85, 2, ls, (.int 0 :: st), w) := (zE_ (i := .iconst 0) (by decide +kernel) _ _ _).trans rfl
theorem e85_2 (ls st : List Value) (w : zH) : zrun none (85, 2, ls, st, w) = zrun none (85, 5, ls, (.int 100000 :: st), w) := (zE_ (i := .sipush (100000)) (by decide +kernel) _ _ _).trans rfl
theorem e85_5 (ls : List Value) (x0 : Int32) (x1 : Int32) (x2 : Int32) (st : List Value) (w : zH) (hr : zcat st ≤ 8) : zrun none (85, 5, ls, (.int x2 :: .int x1 :: .int x0 :: st), w) = zcl (zrun none (100, 0, [.int x0, .int x1, .int x2], [], w)) (fun r => zrun none (85, 8, ls, r.1.toList ++ st, r.2)) := by
  refine (zE_ (i := .invokestatic 100) (by decide +kernel) _ _ _).trans ?_
  show zres (if (99 : Nat) = 99 ∧ 3 ≤ ((.int x2 :: .int x1 :: .int x0 :: st) : List Value).length then zcall 100 [.int x0, .int x1, .int x2] st 85 5 ls w else none) = _
  rw [if_pos ⟨rfl, by simp⟩]
  exact zq_call hr (Nat.le_of_ble_eq_true rfl) rfl rfl
theorem e85_8 (ls : List Value) (a : Int32) (st : List Value) (w : zH) : zrun none (85, 8, ls, (.int a :: st), w) = if a = 0 then zrun none (85, 18, ls, st, w) else zrun none (85, 11, ls, st, w) := (zE_ (i := .ifCond .eq 10) (by decide +kernel) _ _ _).trans (zq_if_eq rfl rfl)
theorem e85_11 (v0 v1 : Value) (x : Int32) (st : List Value) (w : zH) : zrun none (85, 11, [v0, v1, .int x], st, w) = zrun none (85, 12, [v0, v1, .int x], (.int x :: st), w) := (zE_ (i := .iload_n 2) (by decide +kernel) _ _ _).trans rfl
theorem e85_12 (ls : List Value) (x0 : Int32) (st : List Value) (w : zH) (hr : zcat st ≤ 8) : zrun none (85, 12, ls, (.int x0 :: st), w) = zcl (zrun none (102, 0, [.int x0], [], w)) (fun r => zrun none (85, 15, ls, r.1.toList ++ st, r.2)) := by
  refine (zE_ (i := .invokestatic 102) (by decide +kernel) _ _ _).trans ?_
  show zres (if (99 : Nat) = 99 ∧ 1 ≤ ((.int x0 :: st) : List Value).length then zcall 102 [.int x0] st 85 12 ls w else none) = _
  rw [if_pos ⟨rfl, by simp⟩]
  exact zq_call hr (Nat.le_of_ble_eq_true rfl) rfl rfl
theorem e85_15 (ls : List Value) (a : Int32) (st : List Value) (w : zH) : zrun none (85, 15, ls, (.int a :: st), w) = if a = 0 then zrun none (85, 18, ls, st, w) else zrun none (85, 21, ls, st, w) := (zE_ (i := .ifCond .ne 6) (by decide +kernel) _ _ _).trans (zq_if_ne rfl rfl)
theorem e85_18 (ls st : List Value) (w : zH) : zrun none (85, 18, ls, st, w) = zrun none (85, 20, ls, (.int (-1000001) :: st), w) := (zE_ (i := .bipush (-1000001)) (by decide +kernel) _ _ _).trans rfl
theorem e85_20 (ls : List Value) (x : Int32) (w : zH) : zrun none (85, 20, ls, [.int x], w) = some (some (.int x), w) := by
  refine (zE_ (i := .ireturn) (by decide +kernel) _ _ _).trans ?_
  show zres (if narrow .int (.int x) = .int x then _ else none) = _
  rw [if_pos (show narrow .int (.int x) = .int x from rfl)]
  rfl
theorem e85_21 (v0 v2 : Value) (x : Int32) (st : List Value) (w : zH) : zrun none (85, 21, [v0, .int x, v2], st, w) = zrun none (85, 22, [v0, .int x, v2], (.int x :: st), w) := (zE_ (i := .iload_n 1) (by decide +kernel) _ _ _).trans rfl
theorem e85_22 (v0 v1 : Value) (x : Int32) (st : List Value) (w : zH) : zrun none (85, 22, [v0, v1, .int x], st, w) = zrun none (85, 23, [v0, v1, .int x], (.int x :: st), w) := (zE_ (i := .iload_n 2) (by decide +kernel) _ _ _).trans rfl
theorem e85_23 (ls : List Value) (x0 : Int32) (x1 : Int32) (st : List Value) (w : zH) (hr : zcat st ≤ 8) : zrun none (85, 23, ls, (.int x1 :: .int x0 :: st), w) = zcl (zrun none (127, 0, [.int x0, .int x1], [], w)) (fun r => zrun none (85, 26, ls, r.1.toList ++ st, r.2)) := by
  refine (zE_ (i := .invokestatic 127) (by decide +kernel) _ _ _).trans ?_
  show zres (if (99 : Nat) = 99 ∧ 2 ≤ ((.int x1 :: .int x0 :: st) : List Value).length then zcall 127 [.int x0, .int x1] st 85 23 ls w else none) = _
  rw [if_pos ⟨rfl, by simp⟩]
  exact zq_call hr (Nat.le_of_ble_eq_true rfl) rfl rfl
theorem e85_26 (ls : List Value) (x : Int32) (w : zH) : zrun none (85, 26, ls, [.int x], w) = some (some (.int x), w) := by
  refine (zE_ (i := .ireturn) (by decide +kernel) _ _ _).trans ?_
  show zres (if narrow .int (.int x) = .int x then _ else none) = _
  rw [if_pos (show narrow .int (.int x) = .int x from rfl)]
  rfl
theorem e86_0 (v1 v2 v3 v4 v5 v6 v7 : Value) (x : Nat) (st : List Value) (w : zH) : zrun none (86, 0, [.ref x, v1, v2, v3, v4, v5, v6, v7], st, w) = zrun none (86, 1, [.ref x, v1, v2, v3, v4, v5, v6, v7], (.ref x :: st), w) := (zE_ (i := .aload_n 0) (by decide +kernel) _ _ _).trans rfl
theorem e86_1 (v0 v2 v3 v4 v5 v6 v7 : Value) (x : Int32) (st : List Value) (w : zH) : zrun none (86, 1, [v0, .int x, v2, v3, v4, v5, v6, v7], st, w) = zrun none (86, 2, [v0, .int x, v2, v3, v4, v5, v6, v7], (.int x :: st), w) := (zE_ (i := .iload_n 1) (by decide +kernel) _ _ _).trans rfl
theorem e86_2 (ls : List Value) (a : Nat) (x0 : Int32) (st : List Value) (w : zH) (hr : zcat st ≤ 8) : zrun none (86, 2, ls, (.int x0 :: .ref a :: st), w) = zgd (zis w a 11) (zcl (zrun none (110, 0, [.ref a, .int x0], [], w)) (fun r => zrun none (86, 5, ls, r.1.toList ++ st, r.2))) := by
  refine (zE_ (i := .invokevirtual 110) (by decide +kernel) _ _ _).trans ?_
  show zres (zinv none 110 86 2 ls (.int x0 :: .ref a :: st) w) = _
  unfold zinv
  show zres (if zrc none 110 w (.ref a) = true then zcall 110 [.ref a, .int x0] st 86 2 ls w else none) = _
  by_cases hc : zis w a 11
  · rw [if_pos (zrc_is hc (by decide +kernel)), zgd_pos hc]
    exact zq_call hr (Nat.le_of_ble_eq_true rfl) rfl rfl
  · rw [zgd_neg hc, if_neg (fun q => hc (zrc_of q (by decide +kernel)))]
    rfl
theorem e86_5 (v0 v1 v2 v3 v4 v5 v6 v7 : Value) (x : Nat) (st : List Value) (w : zH) (h : v5.category = 1) : zrun none (86, 5, [v0, v1, v2, v3, v4, v5, v6, v7], (.ref x :: st), w) = zrun none (86, 7, [v0, v1, v2, v3, v4, v5, .ref x, v7], st, w) := by
  refine (zE_ (i := .astore 6) (by decide +kernel) _ _ _).trans ?_
  have hz : zfree [v0, v1, v2, v3, v4, v5, v6, v7] 6 = true := by show decide (v5.category = 1) = true; exact decide_eq_true h
  show zres (zst zref 6 2 86 5 [v0, v1, v2, v3, v4, v5, v6, v7] (.ref x :: st) w) = _
  unfold zst
  dsimp only
  rw [if_pos ⟨rfl, Nat.le_of_ble_eq_true rfl, hz⟩]
  rfl
theorem e86_5n (v0 v1 v2 v3 v4 v5 v6 v7 : Value) (st : List Value) (w : zH) (h : v5.category = 1) : zrun none (86, 5, [v0, v1, v2, v3, v4, v5, v6, v7], (.null :: st), w) = zrun none (86, 7, [v0, v1, v2, v3, v4, v5, .null, v7], st, w) := by
  refine (zE_ (i := .astore 6) (by decide +kernel) _ _ _).trans ?_
  have hz : zfree [v0, v1, v2, v3, v4, v5, v6, v7] 6 = true := by show decide (v5.category = 1) = true; exact decide_eq_true h
  show zres (zst zref 6 2 86 5 [v0, v1, v2, v3, v4, v5, v6, v7] (.null :: st) w) = _
  unfold zst
  dsimp only
  rw [if_pos ⟨rfl, Nat.le_of_ble_eq_true rfl, hz⟩]
  rfl
theorem e86_7 (v0 v1 v2 v3 v4 v5 v7 : Value) (x : Nat) (st : List Value) (w : zH) : zrun none (86, 7, [v0, v1, v2, v3, v4, v5, .ref x, v7], st, w) = zrun none (86, 9, [v0, v1, v2, v3, v4, v5, .ref x, v7], (.ref x :: st), w) := (zE_ (i := .aload 6) (by decide +kernel) _ _ _).trans rfl
theorem e86_7n (v0 v1 v2 v3 v4 v5 v7 : Value) (st : List Value) (w : zH) : zrun none (86, 7, [v0, v1, v2, v3, v4, v5, .null, v7], st, w) = zrun none (86, 9, [v0, v1, v2, v3, v4, v5, .null, v7], (.null :: st), w) := (zE_ (i := .aload 6) (by decide +kernel) _ _ _).trans rfl
theorem e86_9n (ls st : List Value) (w : zH) : zrun none (86, 9, ls, (.null :: st), w) = zrun none (86, 44, ls, st, w) := (zE_ (i := .ifnull 35) (by decide +kernel) _ _ _).trans rfl
theorem e86_9 (ls : List Value) (a : Nat) (st : List Value) (w : zH) (h : a < zX) : zrun none (86, 9, ls, (.ref a :: st), w) = zrun none (86, 12, ls, st, w) := by
  refine (zE_ (i := .ifnull 35) (by decide +kernel) _ _ _).trans ?_
  simp only [zI, if_pos h]
  rfl
theorem e86_12 (v0 v1 v2 v4 v5 v6 v7 : Value) (x : Int32) (st : List Value) (w : zH) : zrun none (86, 12, [v0, v1, v2, .int x, v4, v5, v6, v7], st, w) = zrun none (86, 13, [v0, v1, v2, .int x, v4, v5, v6, v7], (.int x :: st), w) := (zE_ (i := .iload_n 3) (by decide +kernel) _ _ _).trans rfl
theorem e86_13 (ls st : List Value) (w : zH) : zrun none (86, 13, ls, st, w) = zrun none (86, 14, ls, (.int 1 :: st), w) := (zE_ (i := .iconst 1) (by decide +kernel) _ _ _).trans rfl
theorem e86_14 (ls st : List Value) (w : zH) : zrun none (86, 14, ls, st, w) = zrun none (86, 16, ls, (.int 12 :: st), w) := (zE_ (i := .bipush 12) (by decide +kernel) _ _ _).trans rfl
theorem e86_16 (ls : List Value) (x0 : Int32) (x1 : Int32) (x2 : Int32) (st : List Value) (w : zH) (hr : zcat st ≤ 8) : zrun none (86, 16, ls, (.int x2 :: .int x1 :: .int x0 :: st), w) = zcl (zrun none (100, 0, [.int x0, .int x1, .int x2], [], w)) (fun r => zrun none (86, 19, ls, r.1.toList ++ st, r.2)) := by
  refine (zE_ (i := .invokestatic 100) (by decide +kernel) _ _ _).trans ?_
  show zres (if (99 : Nat) = 99 ∧ 3 ≤ ((.int x2 :: .int x1 :: .int x0 :: st) : List Value).length then zcall 100 [.int x0, .int x1, .int x2] st 86 16 ls w else none) = _
  rw [if_pos ⟨rfl, by simp⟩]
  exact zq_call hr (Nat.le_of_ble_eq_true rfl) rfl rfl
theorem e86_19 (ls : List Value) (a : Int32) (st : List Value) (w : zH) : zrun none (86, 19, ls, (.int a :: st), w) = if a = 0 then zrun none (86, 44, ls, st, w) else zrun none (86, 22, ls, st, w) := (zE_ (i := .ifCond .eq 25) (by decide +kernel) _ _ _).trans (zq_if_eq rfl rfl)
theorem e86_22 (v0 v1 v2 v3 v5 v6 v7 : Value) (x : Int32) (st : List Value) (w : zH) : zrun none (86, 22, [v0, v1, v2, v3, .int x, v5, v6, v7], st, w) = zrun none (86, 24, [v0, v1, v2, v3, .int x, v5, v6, v7], (.int x :: st), w) := (zE_ (i := .iload 4) (by decide +kernel) _ _ _).trans rfl
theorem e86_24 (ls st : List Value) (w : zH) : zrun none (86, 24, ls, st, w) = zrun none (86, 25, ls, (.int 0 :: st), w) := (zE_ (i := .iconst 0) (by decide +kernel) _ _ _).trans rfl
theorem e86_25 (ls st : List Value) (w : zH) : zrun none (86, 25, ls, st, w) = zrun none (86, 28, ls, (.int 500 :: st), w) := (zE_ (i := .sipush 500) (by decide +kernel) _ _ _).trans rfl
theorem e86_28 (ls : List Value) (x0 : Int32) (x1 : Int32) (x2 : Int32) (st : List Value) (w : zH) (hr : zcat st ≤ 8) : zrun none (86, 28, ls, (.int x2 :: .int x1 :: .int x0 :: st), w) = zcl (zrun none (100, 0, [.int x0, .int x1, .int x2], [], w)) (fun r => zrun none (86, 31, ls, r.1.toList ++ st, r.2)) := by
  refine (zE_ (i := .invokestatic 100) (by decide +kernel) _ _ _).trans ?_
  show zres (if (99 : Nat) = 99 ∧ 3 ≤ ((.int x2 :: .int x1 :: .int x0 :: st) : List Value).length then zcall 100 [.int x0, .int x1, .int x2] st 86 28 ls w else none) = _
  rw [if_pos ⟨rfl, by simp⟩]
  exact zq_call hr (Nat.le_of_ble_eq_true rfl) rfl rfl
theorem e86_31 (ls : List Value) (a : Int32) (st : List Value) (w : zH) : zrun none (86, 31, ls, (.int a :: st), w) = if a = 0 then zrun none (86, 44, ls, st, w) else zrun none (86, 34, ls, st, w) := (zE_ (i := .ifCond .eq 13) (by decide +kernel) _ _ _).trans (zq_if_eq rfl rfl)
theorem e86_34 (v0 v1 v2 v3 v4 v6 v7 : Value) (x : Int32) (st : List Value) (w : zH) : zrun none (86, 34, [v0, v1, v2, v3, v4, .int x, v6, v7], st, w) = zrun none (86, 36, [v0, v1, v2, v3, v4, .int x, v6, v7], (.int x :: st), w) := (zE_ (i := .iload 5) (by decide +kernel) _ _ _).trans rfl
theorem e86_36 (ls st : List Value) (w : zH) : zrun none (86, 36, ls, st, w) = zrun none (86, 37, ls, (.int 0 :: st), w) := (zE_ (i := .iconst 0) (by decide +kernel) _ _ _).trans rfl
theorem e86_37 (ls st : List Value) (w : zH) : zrun none (86, 37, ls, st, w) = zrun none (86, 38, ls, (.int 1 :: st), w) := (zE_ (i := .iconst 1) (by decide +kernel) _ _ _).trans rfl
theorem e86_38 (ls : List Value) (x0 : Int32) (x1 : Int32) (x2 : Int32) (st : List Value) (w : zH) (hr : zcat st ≤ 8) : zrun none (86, 38, ls, (.int x2 :: .int x1 :: .int x0 :: st), w) = zcl (zrun none (100, 0, [.int x0, .int x1, .int x2], [], w)) (fun r => zrun none (86, 41, ls, r.1.toList ++ st, r.2)) := by
  refine (zE_ (i := .invokestatic 100) (by decide +kernel) _ _ _).trans ?_
  show zres (if (99 : Nat) = 99 ∧ 3 ≤ ((.int x2 :: .int x1 :: .int x0 :: st) : List Value).length then zcall 100 [.int x0, .int x1, .int x2] st 86 38 ls w else none) = _
  rw [if_pos ⟨rfl, by simp⟩]
  exact zq_call hr (Nat.le_of_ble_eq_true rfl) rfl rfl
theorem e86_41 (ls : List Value) (a : Int32) (st : List Value) (w : zH) : zrun none (86, 41, ls, (.int a :: st), w) = if a = 0 then zrun none (86, 44, ls, st, w) else zrun none (86, 47, ls, st, w) := (zE_ (i := .ifCond .ne 6) (by decide +kernel) _ _ _).trans (zq_if_ne rfl rfl)
theorem e86_44 (ls st : List Value) (w : zH) : zrun none (86, 44, ls, st, w) = zrun none (86, 46, ls, (.int (-1000001) :: st), w) := (zE_ (i := .bipush (-1000001)) (by decide +kernel) _ _ _).trans rfl
theorem e86_46 (ls : List Value) (x : Int32) (w : zH) : zrun none (86, 46, ls, [.int x], w) = some (some (.int x), w) := by
  refine (zE_ (i := .ireturn) (by decide +kernel) _ _ _).trans ?_
  show zres (if narrow .int (.int x) = .int x then _ else none) = _
  rw [if_pos (show narrow .int (.int x) = .int x from rfl)]
  rfl
theorem e86_47 (v0 v1 v2 v3 v4 v5 v7 : Value) (x : Nat) (st : List Value) (w : zH) : zrun none (86, 47, [v0, v1, v2, v3, v4, v5, .ref x, v7], st, w) = zrun none (86, 49, [v0, v1, v2, v3, v4, v5, .ref x, v7], (.ref x :: st), w) := (zE_ (i := .aload 6) (by decide +kernel) _ _ _).trans rfl
theorem e86_47n (v0 v1 v2 v3 v4 v5 v7 : Value) (st : List Value) (w : zH) : zrun none (86, 47, [v0, v1, v2, v3, v4, v5, .null, v7], st, w) = zrun none (86, 49, [v0, v1, v2, v3, v4, v5, .null, v7], (.null :: st), w) := (zE_ (i := .aload 6) (by decide +kernel) _ _ _).trans rfl
theorem e86_49 (ls : List Value) (a : Nat) (st : List Value) (w : zH) : zrun none (86, 49, ls, (.ref a :: st), w) = zo (zf w a 801) (fun x => zrun none (86, 52, ls, (x :: st), w)) := (zE_ (i := .getfield 801) (by decide +kernel) _ _ _).trans zq_getf
theorem e86_52 (ls : List Value) (a : Int32) (st : List Value) (w : zH) : zrun none (86, 52, ls, (.int a :: st), w) = if a = 0 then zrun none (86, 55, ls, st, w) else zrun none (86, 61, ls, st, w) := (zE_ (i := .ifCond .ne 9) (by decide +kernel) _ _ _).trans (zq_if_ne rfl rfl)
theorem e86_55 (v1 v2 v3 v4 v5 v6 v7 : Value) (x : Nat) (st : List Value) (w : zH) : zrun none (86, 55, [.ref x, v1, v2, v3, v4, v5, v6, v7], st, w) = zrun none (86, 56, [.ref x, v1, v2, v3, v4, v5, v6, v7], (.ref x :: st), w) := (zE_ (i := .aload_n 0) (by decide +kernel) _ _ _).trans rfl
theorem e86_56 (ls st : List Value) (w : zH) : zrun none (86, 56, ls, st, w) = zrun none (86, 57, ls, (.int 1 :: st), w) := (zE_ (i := .iconst 1) (by decide +kernel) _ _ _).trans rfl
theorem e86_57 (ls : List Value) (a : Nat) (x0 : Int32) (st : List Value) (w : zH) (hr : zcat st ≤ 8) : zrun none (86, 57, ls, (.int x0 :: .ref a :: st), w) = zgd (zis w a 11) (zcl (zrun none (114, 0, [.ref a, .int x0], [], w)) (fun r => zrun none (86, 60, ls, r.1.toList ++ st, r.2))) := by
  refine (zE_ (i := .invokevirtual 114) (by decide +kernel) _ _ _).trans ?_
  show zres (zinv none 114 86 57 ls (.int x0 :: .ref a :: st) w) = _
  unfold zinv
  show zres (if zrc none 114 w (.ref a) = true then zcall 114 [.ref a, .int x0] st 86 57 ls w else none) = _
  by_cases hc : zis w a 11
  · rw [if_pos (zrc_is hc (by decide +kernel)), zgd_pos hc]
    exact zq_call hr (Nat.le_of_ble_eq_true rfl) rfl rfl
  · rw [zgd_neg hc, if_neg (fun q => hc (zrc_of q (by decide +kernel)))]
    rfl
theorem e86_60 (ls : List Value) (x : Int32) (w : zH) : zrun none (86, 60, ls, [.int x], w) = some (some (.int x), w) := by
  refine (zE_ (i := .ireturn) (by decide +kernel) _ _ _).trans ?_
  show zres (if narrow .int (.int x) = .int x then _ else none) = _
  rw [if_pos (show narrow .int (.int x) = .int x from rfl)]
  rfl
theorem e86_61 (v0 v1 v2 v3 v4 v5 v7 : Value) (x : Nat) (st : List Value) (w : zH) : zrun none (86, 61, [v0, v1, v2, v3, v4, v5, .ref x, v7], st, w) = zrun none (86, 63, [v0, v1, v2, v3, v4, v5, .ref x, v7], (.ref x :: st), w) := (zE_ (i := .aload 6) (by decide +kernel) _ _ _).trans rfl
theorem e86_61n (v0 v1 v2 v3 v4 v5 v7 : Value) (st : List Value) (w : zH) : zrun none (86, 61, [v0, v1, v2, v3, v4, v5, .null, v7], st, w) = zrun none (86, 63, [v0, v1, v2, v3, v4, v5, .null, v7], (.null :: st), w) := (zE_ (i := .aload 6) (by decide +kernel) _ _ _).trans rfl
theorem e86_63 (v0 v1 v3 v4 v5 v6 v7 : Value) (x : Int32) (st : List Value) (w : zH) : zrun none (86, 63, [v0, v1, .int x, v3, v4, v5, v6, v7], st, w) = zrun none (86, 64, [v0, v1, .int x, v3, v4, v5, v6, v7], (.int x :: st), w) := (zE_ (i := .iload_n 2) (by decide +kernel) _ _ _).trans rfl
theorem e86_64 (ls st : List Value) (w : zH) : zrun none (86, 64, ls, st, w) = zrun none (86, 65, ls, (.int 2 :: st), w) := (zE_ (i := .iconst 2) (by decide +kernel) _ _ _).trans rfl
theorem e86_65 (v0 v1 v2 v4 v5 v6 v7 : Value) (x : Int32) (st : List Value) (w : zH) : zrun none (86, 65, [v0, v1, v2, .int x, v4, v5, v6, v7], st, w) = zrun none (86, 66, [v0, v1, v2, .int x, v4, v5, v6, v7], (.int x :: st), w) := (zE_ (i := .iload_n 3) (by decide +kernel) _ _ _).trans rfl
theorem e86_66 (ls : List Value) (a b : Int32) (st : List Value) (w : zH) : zrun none (86, 66, ls, (.int b :: .int a :: st), w) = zrun none (86, 67, ls, (.int (a * b) :: st), w) := (zE_ (i := .imul) (by decide +kernel) _ _ _).trans rfl
theorem e86_67 (ls : List Value) (a : Nat) (x0 : Int32) (x1 : Int32) (st : List Value) (w : zH) (hr : zcat st ≤ 8) : zrun none (86, 67, ls, (.int x1 :: .int x0 :: .ref a :: st), w) = zgd (zis w a 8) (zcl (zrun none (36, 0, [.ref a, .int x0, .int x1], [], w)) (fun r => zrun none (86, 70, ls, r.1.toList ++ st, r.2))) := by
  refine (zE_ (i := .invokevirtual 36) (by decide +kernel) _ _ _).trans ?_
  show zres (zinv none 36 86 67 ls (.int x1 :: .int x0 :: .ref a :: st) w) = _
  unfold zinv
  show zres (if zrc none 36 w (.ref a) = true then zcall 36 [.ref a, .int x0, .int x1] st 86 67 ls w else none) = _
  by_cases hc : zis w a 8
  · rw [if_pos (zrc_is hc (by decide +kernel)), zgd_pos hc]
    exact zq_call hr (Nat.le_of_ble_eq_true rfl) rfl rfl
  · rw [zgd_neg hc, if_neg (fun q => hc (zrc_of q (by decide +kernel)))]
    rfl
theorem e86_70 (ls : List Value) (a : Int32) (st : List Value) (w : zH) : zrun none (86, 70, ls, (.int a :: st), w) = if a = 0 then zrun none (86, 73, ls, st, w) else zrun none (86, 79, ls, st, w) := (zE_ (i := .ifCond .ne 9) (by decide +kernel) _ _ _).trans (zq_if_ne rfl rfl)
theorem e86_73 (v1 v2 v3 v4 v5 v6 v7 : Value) (x : Nat) (st : List Value) (w : zH) : zrun none (86, 73, [.ref x, v1, v2, v3, v4, v5, v6, v7], st, w) = zrun none (86, 74, [.ref x, v1, v2, v3, v4, v5, v6, v7], (.ref x :: st), w) := (zE_ (i := .aload_n 0) (by decide +kernel) _ _ _).trans rfl
theorem e86_74 (ls st : List Value) (w : zH) : zrun none (86, 74, ls, st, w) = zrun none (86, 75, ls, (.int 2 :: st), w) := (zE_ (i := .iconst 2) (by decide +kernel) _ _ _).trans rfl
theorem e86_75 (ls : List Value) (a : Nat) (x0 : Int32) (st : List Value) (w : zH) (hr : zcat st ≤ 8) : zrun none (86, 75, ls, (.int x0 :: .ref a :: st), w) = zgd (zis w a 11) (zcl (zrun none (114, 0, [.ref a, .int x0], [], w)) (fun r => zrun none (86, 78, ls, r.1.toList ++ st, r.2))) := by
  refine (zE_ (i := .invokevirtual 114) (by decide +kernel) _ _ _).trans ?_
  show zres (zinv none 114 86 75 ls (.int x0 :: .ref a :: st) w) = _
  unfold zinv
  show zres (if zrc none 114 w (.ref a) = true then zcall 114 [.ref a, .int x0] st 86 75 ls w else none) = _
  by_cases hc : zis w a 11
  · rw [if_pos (zrc_is hc (by decide +kernel)), zgd_pos hc]
    exact zq_call hr (Nat.le_of_ble_eq_true rfl) rfl rfl
  · rw [zgd_neg hc, if_neg (fun q => hc (zrc_of q (by decide +kernel)))]
    rfl
theorem e86_78 (ls : List Value) (x : Int32) (w : zH) : zrun none (86, 78, ls, [.int x], w) = some (some (.int x), w) := by
  refine (zE_ (i := .ireturn) (by decide +kernel) _ _ _).trans ?_
  show zres (if narrow .int (.int x) = .int x then _ else none) = _
  rw [if_pos (show narrow .int (.int x) = .int x from rfl)]
  rfl
theorem e86_79 (v0 v1 v2 v3 v4 v5 v7 : Value) (x : Nat) (st : List Value) (w : zH) : zrun none (86, 79, [v0, v1, v2, v3, v4, v5, .ref x, v7], st, w) = zrun none (86, 81, [v0, v1, v2, v3, v4, v5, .ref x, v7], (.ref x :: st), w) := (zE_ (i := .aload 6) (by decide +kernel) _ _ _).trans rfl
theorem e86_79n (v0 v1 v2 v3 v4 v5 v7 : Value) (st : List Value) (w : zH) : zrun none (86, 79, [v0, v1, v2, v3, v4, v5, .null, v7], st, w) = zrun none (86, 81, [v0, v1, v2, v3, v4, v5, .null, v7], (.null :: st), w) := (zE_ (i := .aload 6) (by decide +kernel) _ _ _).trans rfl
theorem e86_81 (v0 v1 v3 v4 v5 v6 v7 : Value) (x : Int32) (st : List Value) (w : zH) : zrun none (86, 81, [v0, v1, .int x, v3, v4, v5, v6, v7], st, w) = zrun none (86, 82, [v0, v1, .int x, v3, v4, v5, v6, v7], (.int x :: st), w) := (zE_ (i := .iload_n 2) (by decide +kernel) _ _ _).trans rfl
theorem e86_82 (v0 v1 v2 v4 v5 v6 v7 : Value) (x : Int32) (st : List Value) (w : zH) : zrun none (86, 82, [v0, v1, v2, .int x, v4, v5, v6, v7], st, w) = zrun none (86, 83, [v0, v1, v2, .int x, v4, v5, v6, v7], (.int x :: st), w) := (zE_ (i := .iload_n 3) (by decide +kernel) _ _ _).trans rfl
theorem e86_83 (ls st : List Value) (w : zH) : zrun none (86, 83, ls, st, w) = zrun none (86, 85, ls, (.int 100 :: st), w) := (zE_ (i := .bipush 100) (by decide +kernel) _ _ _).trans rfl
theorem e86_85 (ls : List Value) (a : Nat) (x0 : Int32) (x1 : Int32) (x2 : Int32) (st : List Value) (w : zH) (hr : zcat st ≤ 8) : zrun none (86, 85, ls, (.int x2 :: .int x1 :: .int x0 :: .ref a :: st), w) = zgd (zis w a 8) (zcl (zrun none (40, 0, [.ref a, .int x0, .int x1, .int x2, zJ], [], w)) (fun r => zrun none (86, 88, ls, r.1.toList ++ st, r.2))) := by
  refine (zE_ (i := .invokevirtual 40) (by decide +kernel) _ _ _).trans ?_
  show zres (zinv none 40 86 85 ls (.int x2 :: .int x1 :: .int x0 :: .ref a :: st) w) = _
  unfold zinv
  show zres (if zrc none 40 w (.ref a) = true then zcall 40 [.ref a, .int x0, .int x1, .int x2] st 86 85 ls w else none) = _
  by_cases hc : zis w a 8
  · rw [if_pos (zrc_is hc (by decide +kernel)), zgd_pos hc]
    exact zq_call hr (Nat.le_of_ble_eq_true rfl) rfl rfl
  · rw [zgd_neg hc, if_neg (fun q => hc (zrc_of q (by decide +kernel)))]
    rfl
theorem e86_88 (ls : List Value) (a : Int32) (st : List Value) (w : zH) : zrun none (86, 88, ls, (.int a :: st), w) = if a = 0 then zrun none (86, 91, ls, st, w) else zrun none (86, 94, ls, st, w) := (zE_ (i := .ifCond .ne 6) (by decide +kernel) _ _ _).trans (zq_if_ne rfl rfl)
theorem e86_91 (ls st : List Value) (w : zH) : zrun none (86, 91, ls, st, w) = zrun none (86, 93, ls, (.int (-1000001) :: st), w) := (zE_ (i := .bipush (-1000001)) (by decide +kernel) _ _ _).trans rfl
theorem e86_93 (ls : List Value) (x : Int32) (w : zH) : zrun none (86, 93, ls, [.int x], w) = some (some (.int x), w) := by
  refine (zE_ (i := .ireturn) (by decide +kernel) _ _ _).trans ?_
  show zres (if narrow .int (.int x) = .int x then _ else none) = _
  rw [if_pos (show narrow .int (.int x) = .int x from rfl)]
  rfl
theorem e86_94 (v1 v2 v3 v4 v5 v6 v7 : Value) (x : Nat) (st : List Value) (w : zH) : zrun none (86, 94, [.ref x, v1, v2, v3, v4, v5, v6, v7], st, w) = zrun none (86, 95, [.ref x, v1, v2, v3, v4, v5, v6, v7], (.ref x :: st), w) := (zE_ (i := .aload_n 0) (by decide +kernel) _ _ _).trans rfl
theorem e86_95 (v0 v1 v2 v3 v4 v5 v7 : Value) (x : Nat) (st : List Value) (w : zH) : zrun none (86, 95, [v0, v1, v2, v3, v4, v5, .ref x, v7], st, w) = zrun none (86, 97, [v0, v1, v2, v3, v4, v5, .ref x, v7], (.ref x :: st), w) := (zE_ (i := .aload 6) (by decide +kernel) _ _ _).trans rfl
theorem e86_95n (v0 v1 v2 v3 v4 v5 v7 : Value) (st : List Value) (w : zH) : zrun none (86, 95, [v0, v1, v2, v3, v4, v5, .null, v7], st, w) = zrun none (86, 97, [v0, v1, v2, v3, v4, v5, .null, v7], (.null :: st), w) := (zE_ (i := .aload 6) (by decide +kernel) _ _ _).trans rfl
theorem e86_97 (v0 v1 v3 v4 v5 v6 v7 : Value) (x : Int32) (st : List Value) (w : zH) : zrun none (86, 97, [v0, v1, .int x, v3, v4, v5, v6, v7], st, w) = zrun none (86, 98, [v0, v1, .int x, v3, v4, v5, v6, v7], (.int x :: st), w) := (zE_ (i := .iload_n 2) (by decide +kernel) _ _ _).trans rfl
theorem e86_98 (v0 v1 v2 v4 v5 v6 v7 : Value) (x : Int32) (st : List Value) (w : zH) : zrun none (86, 98, [v0, v1, v2, .int x, v4, v5, v6, v7], st, w) = zrun none (86, 99, [v0, v1, v2, .int x, v4, v5, v6, v7], (.int x :: st), w) := (zE_ (i := .iload_n 3) (by decide +kernel) _ _ _).trans rfl
theorem e86_99 (v0 v1 v2 v3 v5 v6 v7 : Value) (x : Int32) (st : List Value) (w : zH) : zrun none (86, 99, [v0, v1, v2, v3, .int x, v5, v6, v7], st, w) = zrun none (86, 101, [v0, v1, v2, v3, .int x, v5, v6, v7], (.int x :: st), w) := (zE_ (i := .iload 4) (by decide +kernel) _ _ _).trans rfl
theorem e86_101 (ls : List Value) (a : Nat) (x0 : Nat) (x1 : Int32) (x2 : Int32) (x3 : Int32) (st : List Value) (w : zH) (hr : zcat st ≤ 8) : zrun none (86, 101, ls, (.int x3 :: .int x2 :: .int x1 :: .ref x0 :: .ref a :: st), w) = zgd (zis w a 11) (zcl (zrun none (131, 0, [.ref a, .ref x0, .int x1, .int x2, .int x3, zJ, zJ, zJ, zJ, zJ, zJ], [], w)) (fun r => zrun none (86, 104, ls, r.1.toList ++ st, r.2))) := by
  refine (zE_ (i := .invokevirtual 131) (by decide +kernel) _ _ _).trans ?_
  show zres (zinv none 131 86 101 ls (.int x3 :: .int x2 :: .int x1 :: .ref x0 :: .ref a :: st) w) = _
  unfold zinv
  show zres (if zrc none 131 w (.ref a) = true then zcall 131 [.ref a, .ref x0, .int x1, .int x2, .int x3] st 86 101 ls w else none) = _
  by_cases hc : zis w a 11
  · rw [if_pos (zrc_is hc (by decide +kernel)), zgd_pos hc]
    exact zq_call hr (Nat.le_of_ble_eq_true rfl) rfl rfl
  · rw [zgd_neg hc, if_neg (fun q => hc (zrc_of q (by decide +kernel)))]
    rfl
theorem e86_104 (v0 v1 v2 v3 v4 v5 v6 v7 : Value) (x : Int32) (st : List Value) (w : zH) (h : v6.category = 1) : zrun none (86, 104, [v0, v1, v2, v3, v4, v5, v6, v7], (.int x :: st), w) = zrun none (86, 106, [v0, v1, v2, v3, v4, v5, v6, .int x], st, w) := by
  refine (zE_ (i := .istore 7) (by decide +kernel) _ _ _).trans ?_
  have hz : zfree [v0, v1, v2, v3, v4, v5, v6, v7] 7 = true := by show decide (v6.category = 1) = true; exact decide_eq_true h
  show zres (zst zint 7 2 86 104 [v0, v1, v2, v3, v4, v5, v6, v7] (.int x :: st) w) = _
  unfold zst
  dsimp only
  rw [if_pos ⟨rfl, Nat.le_of_ble_eq_true rfl, hz⟩]
  rfl
theorem e86_106 (v1 v2 v3 v4 v5 v6 v7 : Value) (x : Nat) (st : List Value) (w : zH) : zrun none (86, 106, [.ref x, v1, v2, v3, v4, v5, v6, v7], st, w) = zrun none (86, 107, [.ref x, v1, v2, v3, v4, v5, v6, v7], (.ref x :: st), w) := (zE_ (i := .aload_n 0) (by decide +kernel) _ _ _).trans rfl
theorem e86_107 (v0 v1 v2 v3 v4 v6 v7 : Value) (x : Int32) (st : List Value) (w : zH) : zrun none (86, 107, [v0, v1, v2, v3, v4, .int x, v6, v7], st, w) = zrun none (86, 109, [v0, v1, v2, v3, v4, .int x, v6, v7], (.int x :: st), w) := (zE_ (i := .iload 5) (by decide +kernel) _ _ _).trans rfl
theorem e86_109 (ls : List Value) (a : Int32) (st : List Value) (w : zH) : zrun none (86, 109, ls, (.int a :: st), w) = if a = 0 then zrun none (86, 112, ls, st, w) else zrun none (86, 117, ls, st, w) := (zE_ (i := .ifCond .ne 8) (by decide +kernel) _ _ _).trans (zq_if_ne rfl rfl)
theorem e86_112 (v0 v1 v2 v3 v4 v5 v6 : Value) (x : Int32) (st : List Value) (w : zH) : zrun none (86, 112, [v0, v1, v2, v3, v4, v5, v6, .int x], st, w) = zrun none (86, 114, [v0, v1, v2, v3, v4, v5, v6, .int x], (.int x :: st), w) := (zE_ (i := .iload 7) (by decide +kernel) _ _ _).trans rfl
theorem e86_114 (ls st : List Value) (w : zH) : zrun none (86, 114, ls, st, w) = zrun none (86, 127, ls, st, w) := (zE_ (i := .goto 13) (by decide +kernel) _ _ _).trans rfl
theorem e86_117 (v0 v1 v2 v3 v4 v5 v7 : Value) (x : Nat) (st : List Value) (w : zH) : zrun none (86, 117, [v0, v1, v2, v3, v4, v5, .ref x, v7], st, w) = zrun none (86, 119, [v0, v1, v2, v3, v4, v5, .ref x, v7], (.ref x :: st), w) := (zE_ (i := .aload 6) (by decide +kernel) _ _ _).trans rfl
theorem e86_117n (v0 v1 v2 v3 v4 v5 v7 : Value) (st : List Value) (w : zH) : zrun none (86, 117, [v0, v1, v2, v3, v4, v5, .null, v7], st, w) = zrun none (86, 119, [v0, v1, v2, v3, v4, v5, .null, v7], (.null :: st), w) := (zE_ (i := .aload 6) (by decide +kernel) _ _ _).trans rfl
theorem e86_119 (v0 v1 v2 v3 v4 v5 v6 : Value) (x : Int32) (st : List Value) (w : zH) : zrun none (86, 119, [v0, v1, v2, v3, v4, v5, v6, .int x], st, w) = zrun none (86, 121, [v0, v1, v2, v3, v4, v5, v6, .int x], (.int x :: st), w) := (zE_ (i := .iload 7) (by decide +kernel) _ _ _).trans rfl
theorem e86_121 (v0 v1 v3 v4 v5 v6 v7 : Value) (x : Int32) (st : List Value) (w : zH) : zrun none (86, 121, [v0, v1, .int x, v3, v4, v5, v6, v7], st, w) = zrun none (86, 122, [v0, v1, .int x, v3, v4, v5, v6, v7], (.int x :: st), w) := (zE_ (i := .iload_n 2) (by decide +kernel) _ _ _).trans rfl
theorem e86_122 (ls st : List Value) (w : zH) : zrun none (86, 122, ls, st, w) = zrun none (86, 123, ls, (.int 1 :: st), w) := (zE_ (i := .iconst 1) (by decide +kernel) _ _ _).trans rfl
theorem e86_123 (ls : List Value) (a b : Int32) (st : List Value) (w : zH) : zrun none (86, 123, ls, (.int b :: .int a :: st), w) = zrun none (86, 124, ls, (.int (a + b) :: st), w) := (zE_ (i := .iadd) (by decide +kernel) _ _ _).trans rfl
theorem e86_124 (ls : List Value) (a : Nat) (x0 : Int32) (x1 : Int32) (st : List Value) (w : zH) (hr : zcat st ≤ 8) : zrun none (86, 124, ls, (.int x1 :: .int x0 :: .ref a :: st), w) = zgd (zis w a 8) (zcl (zrun none (41, 0, [.ref a, .int x0, .int x1, zJ, zJ], [], w)) (fun r => zrun none (86, 127, ls, r.1.toList ++ st, r.2))) := by
  refine (zE_ (i := .invokevirtual 41) (by decide +kernel) _ _ _).trans ?_
  show zres (zinv none 41 86 124 ls (.int x1 :: .int x0 :: .ref a :: st) w) = _
  unfold zinv
  show zres (if zrc none 41 w (.ref a) = true then zcall 41 [.ref a, .int x0, .int x1] st 86 124 ls w else none) = _
  by_cases hc : zis w a 8
  · rw [if_pos (zrc_is hc (by decide +kernel)), zgd_pos hc]
    exact zq_call hr (Nat.le_of_ble_eq_true rfl) rfl rfl
  · rw [zgd_neg hc, if_neg (fun q => hc (zrc_of q (by decide +kernel)))]
    rfl
theorem e86_127 (ls : List Value) (a : Nat) (x0 : Int32) (st : List Value) (w : zH) (hr : zcat st ≤ 8) : zrun none (86, 127, ls, (.int x0 :: .ref a :: st), w) = zgd (zis w a 11) (zcl (zrun none (115, 0, [.ref a, .int x0], [], w)) (fun r => zrun none (86, 130, ls, r.1.toList ++ st, r.2))) := by
  refine (zE_ (i := .invokevirtual 115) (by decide +kernel) _ _ _).trans ?_
  show zres (zinv none 115 86 127 ls (.int x0 :: .ref a :: st) w) = _
  unfold zinv
  show zres (if zrc none 115 w (.ref a) = true then zcall 115 [.ref a, .int x0] st 86 127 ls w else none) = _
  by_cases hc : zis w a 11
  · rw [if_pos (zrc_is hc (by decide +kernel)), zgd_pos hc]
    exact zq_call hr (Nat.le_of_ble_eq_true rfl) rfl rfl
  · rw [zgd_neg hc, if_neg (fun q => hc (zrc_of q (by decide +kernel)))]
    rfl
theorem e86_130 (ls : List Value) (x : Int32) (w : zH) : zrun none (86, 130, ls, [.int x], w) = some (some (.int x), w) := by
  refine (zE_ (i := .ireturn) (by decide +kernel) _ _ _).trans ?_
  show zres (if narrow .int (.int x) = .int x then _ else none) = _
  rw [if_pos (show narrow .int (.int x) = .int x from rfl)]
  rfl
theorem e87_0 (v1 v2 v3 v4 v5 v6 v7 v8 v9 v10 : Value) (x : Nat) (st : List Value) (w : zH) : zrun none (87, 0, [.ref x, v1, v2, v3, v4, v5, v6, v7, v8, v9, v10], st, w) = zrun none (87, 1, [.ref x, v1, v2, v3, v4, v5, v6, v7, v8, v9, v10], (.ref x :: st), w) := (zE_ (i := .aload_n 0) (by decide +kernel) _ _ _).trans rfl
theorem e87_1 (v0 v2 v3 v4 v5 v6 v7 v8 v9 v10 : Value) (x : Int32) (st : List Value) (w : zH) : zrun none (87, 1, [v0, .int x, v2, v3, v4, v5, v6, v7, v8, v9, v10], st, w) = zrun none (87, 2, [v0, .int x, v2, v3, v4, v5, v6, v7, v8, v9, v10], (.int x :: st), w) := (zE_ (i := .iload_n 1) (by decide +kernel) _ _ _).trans rfl
theorem e87_2 (ls : List Value) (a : Nat) (x0 : Int32) (st : List Value) (w : zH) (hr : zcat st ≤ 8) : zrun none (87, 2, ls, (.int x0 :: .ref a :: st), w) = zgd (zis w a 11) (zcl (zrun none (110, 0, [.ref a, .int x0], [], w)) (fun r => zrun none (87, 5, ls, r.1.toList ++ st, r.2))) := by
  refine (zE_ (i := .invokevirtual 110) (by decide +kernel) _ _ _).trans ?_
  show zres (zinv none 110 87 2 ls (.int x0 :: .ref a :: st) w) = _
  unfold zinv
  show zres (if zrc none 110 w (.ref a) = true then zcall 110 [.ref a, .int x0] st 87 2 ls w else none) = _
  by_cases hc : zis w a 11
  · rw [if_pos (zrc_is hc (by decide +kernel)), zgd_pos hc]
    exact zq_call hr (Nat.le_of_ble_eq_true rfl) rfl rfl
  · rw [zgd_neg hc, if_neg (fun q => hc (zrc_of q (by decide +kernel)))]
    rfl
theorem e87_5 (v0 v1 v2 v3 v4 v5 v6 v7 v8 v9 v10 : Value) (x : Nat) (st : List Value) (w : zH) (h : v7.category = 1) : zrun none (87, 5, [v0, v1, v2, v3, v4, v5, v6, v7, v8, v9, v10], (.ref x :: st), w) = zrun none (87, 7, [v0, v1, v2, v3, v4, v5, v6, v7, .ref x, v9, v10], st, w) := by
  refine (zE_ (i := .astore 8) (by decide +kernel) _ _ _).trans ?_
  have hz : zfree [v0, v1, v2, v3, v4, v5, v6, v7, v8, v9, v10] 8 = true := by show decide (v7.category = 1) = true; exact decide_eq_true h
  show zres (zst zref 8 2 87 5 [v0, v1, v2, v3, v4, v5, v6, v7, v8, v9, v10] (.ref x :: st) w) = _
  unfold zst
  dsimp only
  rw [if_pos ⟨rfl, Nat.le_of_ble_eq_true rfl, hz⟩]
  rfl
theorem e87_5n (v0 v1 v2 v3 v4 v5 v6 v7 v8 v9 v10 : Value) (st : List Value) (w : zH) (h : v7.category = 1) : zrun none (87, 5, [v0, v1, v2, v3, v4, v5, v6, v7, v8, v9, v10], (.null :: st), w) = zrun none (87, 7, [v0, v1, v2, v3, v4, v5, v6, v7, .null, v9, v10], st, w) := by
  refine (zE_ (i := .astore 8) (by decide +kernel) _ _ _).trans ?_
  have hz : zfree [v0, v1, v2, v3, v4, v5, v6, v7, v8, v9, v10] 8 = true := by show decide (v7.category = 1) = true; exact decide_eq_true h
  show zres (zst zref 8 2 87 5 [v0, v1, v2, v3, v4, v5, v6, v7, v8, v9, v10] (.null :: st) w) = _
  unfold zst
  dsimp only
  rw [if_pos ⟨rfl, Nat.le_of_ble_eq_true rfl, hz⟩]
  rfl
theorem e87_7 (v0 v1 v2 v3 v4 v5 v6 v7 v9 v10 : Value) (x : Nat) (st : List Value) (w : zH) : zrun none (87, 7, [v0, v1, v2, v3, v4, v5, v6, v7, .ref x, v9, v10], st, w) = zrun none (87, 9, [v0, v1, v2, v3, v4, v5, v6, v7, .ref x, v9, v10], (.ref x :: st), w) := (zE_ (i := .aload 8) (by decide +kernel) _ _ _).trans rfl
theorem e87_7n (v0 v1 v2 v3 v4 v5 v6 v7 v9 v10 : Value) (st : List Value) (w : zH) : zrun none (87, 7, [v0, v1, v2, v3, v4, v5, v6, v7, .null, v9, v10], st, w) = zrun none (87, 9, [v0, v1, v2, v3, v4, v5, v6, v7, .null, v9, v10], (.null :: st), w) := (zE_ (i := .aload 8) (by decide +kernel) _ _ _).trans rfl
theorem e87_9n (ls st : List Value) (w : zH) : zrun none (87, 9, ls, (.null :: st), w) = zrun none (87, 64, ls, st, w) := (zE_ (i := .ifnull 55) (by decide +kernel) _ _ _).trans rfl
theorem e87_9 (ls : List Value) (a : Nat) (st : List Value) (w : zH) (h : a < zX) : zrun none (87, 9, ls, (.ref a :: st), w) = zrun none (87, 12, ls, st, w) := by
  refine (zE_ (i := .ifnull 55) (by decide +kernel) _ _ _).trans ?_
  simp only [zI, if_pos h]
  rfl
theorem e87_12 (v0 v1 v2 v4 v5 v6 v7 v8 v9 v10 : Value) (x : Int32) (st : List Value) (w : zH) : zrun none (87, 12, [v0, v1, v2, .int x, v4, v5, v6, v7, v8, v9, v10], st, w) = zrun none (87, 13, [v0, v1, v2, .int x, v4, v5, v6, v7, v8, v9, v10], (.int x :: st), w) := (zE_ (i := .iload_n 3) (by decide +kernel) _ _ _).trans rfl
theorem e87_13 (ls st : List Value) (w : zH) : zrun none (87, 13, ls, st, w) = zrun none (87, 14, ls, (.int 1 :: st), w) := (zE_ (i := .iconst 1) (by decide +kernel) _ _ _).trans rfl
theorem e87_14 (ls st : List Value) (w : zH) : zrun none (87, 14, ls, st, w) = zrun none (87, 16, ls, (.int 12 :: st), w) := (zE_ (i := .bipush 12) (by decide +kernel) _ _ _).trans rfl
theorem e87_16 (ls : List Value) (x0 : Int32) (x1 : Int32) (x2 : Int32) (st : List Value) (w : zH) (hr : zcat st ≤ 8) : zrun none (87, 16, ls, (.int x2 :: .int x1 :: .int x0 :: st), w) = zcl (zrun none (100, 0, [.int x0, .int x1, .int x2], [], w)) (fun r => zrun none (87, 19, ls, r.1.toList ++ st, r.2)) := by
  refine (zE_ (i := .invokestatic 100) (by decide +kernel) _ _ _).trans ?_
  show zres (if (99 : Nat) = 99 ∧ 3 ≤ ((.int x2 :: .int x1 :: .int x0 :: st) : List Value).length then zcall 100 [.int x0, .int x1, .int x2] st 87 16 ls w else none) = _
  rw [if_pos ⟨rfl, by simp⟩]
  exact zq_call hr (Nat.le_of_ble_eq_true rfl) rfl rfl
theorem e87_19 (ls : List Value) (a : Int32) (st : List Value) (w : zH) : zrun none (87, 19, ls, (.int a :: st), w) = if a = 0 then zrun none (87, 64, ls, st, w) else zrun none (87, 22, ls, st, w) := (zE_ (i := .ifCond .eq 45) (by decide +kernel) _ _ _).trans (zq_if_eq rfl rfl)
theorem e87_22 (v0 v1 v2 v3 v5 v6 v7 v8 v9 v10 : Value) (x : Int32) (st : List Value) (w : zH) : zrun none (87, 22, [v0, v1, v2, v3, .int x, v5, v6, v7, v8, v9, v10], st, w) = zrun none (87, 24, [v0, v1, v2, v3, .int x, v5, v6, v7, v8, v9, v10], (.int x :: st), w) := (zE_ (i := .iload 4) (by decide +kernel) _ _ _).trans rfl
theorem e87_24 (ls st : List Value) (w : zH) : zrun none (87, 24, ls, st, w) = zrun none (87, 25, ls, (.int 0 :: st), w) := (zE_ (i := .iconst 0) (by decide +kernel) _ _ _).trans rfl
theorem e87_25 (ls st : List Value) (w : zH) : zrun none (87, 25, ls, st, w) = zrun none (87, 28, ls, (.int 5000 :: st), w) := (zE_ (i := .sipush 5000) (by decide +kernel) _ _ _).trans rfl
theorem e87_28 (ls : List Value) (x0 : Int32) (x1 : Int32) (x2 : Int32) (st : List Value) (w : zH) (hr : zcat st ≤ 8) : zrun none (87, 28, ls, (.int x2 :: .int x1 :: .int x0 :: st), w) = zcl (zrun none (100, 0, [.int x0, .int x1, .int x2], [], w)) (fun r => zrun none (87, 31, ls, r.1.toList ++ st, r.2)) := by
  refine (zE_ (i := .invokestatic 100) (by decide +kernel) _ _ _).trans ?_
  show zres (if (99 : Nat) = 99 ∧ 3 ≤ ((.int x2 :: .int x1 :: .int x0 :: st) : List Value).length then zcall 100 [.int x0, .int x1, .int x2] st 87 28 ls w else none) = _
  rw [if_pos ⟨rfl, by simp⟩]
  exact zq_call hr (Nat.le_of_ble_eq_true rfl) rfl rfl
theorem e87_31 (ls : List Value) (a : Int32) (st : List Value) (w : zH) : zrun none (87, 31, ls, (.int a :: st), w) = if a = 0 then zrun none (87, 64, ls, st, w) else zrun none (87, 34, ls, st, w) := (zE_ (i := .ifCond .eq 33) (by decide +kernel) _ _ _).trans (zq_if_eq rfl rfl)
theorem e87_34 (v0 v1 v2 v3 v4 v6 v7 v8 v9 v10 : Value) (x : Int32) (st : List Value) (w : zH) : zrun none (87, 34, [v0, v1, v2, v3, v4, .int x, v6, v7, v8, v9, v10], st, w) = zrun none (87, 36, [v0, v1, v2, v3, v4, .int x, v6, v7, v8, v9, v10], (.int x :: st), w) := (zE_ (i := .iload 5) (by decide +kernel) _ _ _).trans rfl
theorem e87_36 (ls : List Value) (x0 : Int32) (st : List Value) (w : zH) (hr : zcat st ≤ 8) : zrun none (87, 36, ls, (.int x0 :: st), w) = zcl (zrun none (102, 0, [.int x0], [], w)) (fun r => zrun none (87, 39, ls, r.1.toList ++ st, r.2)) := by
  refine (zE_ (i := .invokestatic 102) (by decide +kernel) _ _ _).trans ?_
  show zres (if (99 : Nat) = 99 ∧ 1 ≤ ((.int x0 :: st) : List Value).length then zcall 102 [.int x0] st 87 36 ls w else none) = _
  rw [if_pos ⟨rfl, by simp⟩]
  exact zq_call hr (Nat.le_of_ble_eq_true rfl) rfl rfl
theorem e87_39 (ls : List Value) (a : Int32) (st : List Value) (w : zH) : zrun none (87, 39, ls, (.int a :: st), w) = if a = 0 then zrun none (87, 64, ls, st, w) else zrun none (87, 42, ls, st, w) := (zE_ (i := .ifCond .eq 25) (by decide +kernel) _ _ _).trans (zq_if_eq rfl rfl)
theorem e87_42 (v0 v1 v2 v3 v4 v5 v7 v8 v9 v10 : Value) (x : Int32) (st : List Value) (w : zH) : zrun none (87, 42, [v0, v1, v2, v3, v4, v5, .int x, v7, v8, v9, v10], st, w) = zrun none (87, 44, [v0, v1, v2, v3, v4, v5, .int x, v7, v8, v9, v10], (.int x :: st), w) := (zE_ (i := .iload 6) (by decide +kernel) _ _ _).trans rfl
theorem e87_44 (ls st : List Value) (w : zH) : zrun none (87, 44, ls, st, w) = zrun none (87, 45, ls, (.int 0 :: st), w) := (zE_ (i := .iconst 0) (by decide +kernel) _ _ _).trans rfl
theorem e87_45 (ls st : List Value) (w : zH) : zrun none (87, 45, ls, st, w) = zrun none (87, 48, ls, (.int 100000 :: st), w) := (zE_ (i := .sipush (100000)) (by decide +kernel) _ _ _).trans rfl
theorem e87_48 (ls : List Value) (x0 : Int32) (x1 : Int32) (x2 : Int32) (st : List Value) (w : zH) (hr : zcat st ≤ 8) : zrun none (87, 48, ls, (.int x2 :: .int x1 :: .int x0 :: st), w) = zcl (zrun none (100, 0, [.int x0, .int x1, .int x2], [], w)) (fun r => zrun none (87, 51, ls, r.1.toList ++ st, r.2)) := by
  refine (zE_ (i := .invokestatic 100) (by decide +kernel) _ _ _).trans ?_
  show zres (if (99 : Nat) = 99 ∧ 3 ≤ ((.int x2 :: .int x1 :: .int x0 :: st) : List Value).length then zcall 100 [.int x0, .int x1, .int x2] st 87 48 ls w else none) = _
  rw [if_pos ⟨rfl, by simp⟩]
  exact zq_call hr (Nat.le_of_ble_eq_true rfl) rfl rfl
theorem e87_51 (ls : List Value) (a : Int32) (st : List Value) (w : zH) : zrun none (87, 51, ls, (.int a :: st), w) = if a = 0 then zrun none (87, 64, ls, st, w) else zrun none (87, 54, ls, st, w) := (zE_ (i := .ifCond .eq 13) (by decide +kernel) _ _ _).trans (zq_if_eq rfl rfl)
theorem e87_54 (v0 v1 v2 v3 v4 v5 v6 v8 v9 v10 : Value) (x : Int32) (st : List Value) (w : zH) : zrun none (87, 54, [v0, v1, v2, v3, v4, v5, v6, .int x, v8, v9, v10], st, w) = zrun none (87, 56, [v0, v1, v2, v3, v4, v5, v6, .int x, v8, v9, v10], (.int x :: st), w) := (zE_ (i := .iload 7) (by decide +kernel) _ _ _).trans rfl
theorem e87_56 (ls st : List Value) (w : zH) : zrun none (87, 56, ls, st, w) = zrun none (87, 57, ls, (.int 0 :: st), w) := (zE_ (i := .iconst 0) (by decide +kernel) _ _ _).trans rfl
theorem e87_57 (ls st : List Value) (w : zH) : zrun none (87, 57, ls, st, w) = zrun none (87, 58, ls, (.int 2 :: st), w) := (zE_ (i := .iconst 2) (by decide +kernel) _ _ _).trans rfl
theorem e87_58 (ls : List Value) (x0 : Int32) (x1 : Int32) (x2 : Int32) (st : List Value) (w : zH) (hr : zcat st ≤ 8) : zrun none (87, 58, ls, (.int x2 :: .int x1 :: .int x0 :: st), w) = zcl (zrun none (100, 0, [.int x0, .int x1, .int x2], [], w)) (fun r => zrun none (87, 61, ls, r.1.toList ++ st, r.2)) := by
  refine (zE_ (i := .invokestatic 100) (by decide +kernel) _ _ _).trans ?_
  show zres (if (99 : Nat) = 99 ∧ 3 ≤ ((.int x2 :: .int x1 :: .int x0 :: st) : List Value).length then zcall 100 [.int x0, .int x1, .int x2] st 87 58 ls w else none) = _
  rw [if_pos ⟨rfl, by simp⟩]
  exact zq_call hr (Nat.le_of_ble_eq_true rfl) rfl rfl
theorem e87_61 (ls : List Value) (a : Int32) (st : List Value) (w : zH) : zrun none (87, 61, ls, (.int a :: st), w) = if a = 0 then zrun none (87, 64, ls, st, w) else zrun none (87, 67, ls, st, w) := (zE_ (i := .ifCond .ne 6) (by decide +kernel) _ _ _).trans (zq_if_ne rfl rfl)
theorem e87_64 (ls st : List Value) (w : zH) : zrun none (87, 64, ls, st, w) = zrun none (87, 66, ls, (.int (-1000001) :: st), w) := (zE_ (i := .bipush (-1000001)) (by decide +kernel) _ _ _).trans rfl
theorem e87_66 (ls : List Value) (x : Int32) (w : zH) : zrun none (87, 66, ls, [.int x], w) = some (some (.int x), w) := by
  refine (zE_ (i := .ireturn) (by decide +kernel) _ _ _).trans ?_
  show zres (if narrow .int (.int x) = .int x then _ else none) = _
  rw [if_pos (show narrow .int (.int x) = .int x from rfl)]
  rfl
theorem e87_67 (v0 v1 v2 v3 v4 v5 v6 v7 v9 v10 : Value) (x : Nat) (st : List Value) (w : zH) : zrun none (87, 67, [v0, v1, v2, v3, v4, v5, v6, v7, .ref x, v9, v10], st, w) = zrun none (87, 69, [v0, v1, v2, v3, v4, v5, v6, v7, .ref x, v9, v10], (.ref x :: st), w) := (zE_ (i := .aload 8) (by decide +kernel) _ _ _).trans rfl
theorem e87_67n (v0 v1 v2 v3 v4 v5 v6 v7 v9 v10 : Value) (st : List Value) (w : zH) : zrun none (87, 67, [v0, v1, v2, v3, v4, v5, v6, v7, .null, v9, v10], st, w) = zrun none (87, 69, [v0, v1, v2, v3, v4, v5, v6, v7, .null, v9, v10], (.null :: st), w) := (zE_ (i := .aload 8) (by decide +kernel) _ _ _).trans rfl
theorem e87_69 (ls : List Value) (a : Nat) (st : List Value) (w : zH) : zrun none (87, 69, ls, (.ref a :: st), w) = zo (zf w a 801) (fun x => zrun none (87, 72, ls, (x :: st), w)) := (zE_ (i := .getfield 801) (by decide +kernel) _ _ _).trans zq_getf
theorem e87_72 (ls : List Value) (a : Int32) (st : List Value) (w : zH) : zrun none (87, 72, ls, (.int a :: st), w) = if a = 0 then zrun none (87, 75, ls, st, w) else zrun none (87, 81, ls, st, w) := (zE_ (i := .ifCond .ne 9) (by decide +kernel) _ _ _).trans (zq_if_ne rfl rfl)
theorem e87_75 (v1 v2 v3 v4 v5 v6 v7 v8 v9 v10 : Value) (x : Nat) (st : List Value) (w : zH) : zrun none (87, 75, [.ref x, v1, v2, v3, v4, v5, v6, v7, v8, v9, v10], st, w) = zrun none (87, 76, [.ref x, v1, v2, v3, v4, v5, v6, v7, v8, v9, v10], (.ref x :: st), w) := (zE_ (i := .aload_n 0) (by decide +kernel) _ _ _).trans rfl
theorem e87_76 (ls st : List Value) (w : zH) : zrun none (87, 76, ls, st, w) = zrun none (87, 77, ls, (.int 1 :: st), w) := (zE_ (i := .iconst 1) (by decide +kernel) _ _ _).trans rfl
theorem e87_77 (ls : List Value) (a : Nat) (x0 : Int32) (st : List Value) (w : zH) (hr : zcat st ≤ 8) : zrun none (87, 77, ls, (.int x0 :: .ref a :: st), w) = zgd (zis w a 11) (zcl (zrun none (114, 0, [.ref a, .int x0], [], w)) (fun r => zrun none (87, 80, ls, r.1.toList ++ st, r.2))) := by
  refine (zE_ (i := .invokevirtual 114) (by decide +kernel) _ _ _).trans ?_
  show zres (zinv none 114 87 77 ls (.int x0 :: .ref a :: st) w) = _
  unfold zinv
  show zres (if zrc none 114 w (.ref a) = true then zcall 114 [.ref a, .int x0] st 87 77 ls w else none) = _
  by_cases hc : zis w a 11
  · rw [if_pos (zrc_is hc (by decide +kernel)), zgd_pos hc]
    exact zq_call hr (Nat.le_of_ble_eq_true rfl) rfl rfl
  · rw [zgd_neg hc, if_neg (fun q => hc (zrc_of q (by decide +kernel)))]
    rfl
theorem e87_80 (ls : List Value) (x : Int32) (w : zH) : zrun none (87, 80, ls, [.int x], w) = some (some (.int x), w) := by
  refine (zE_ (i := .ireturn) (by decide +kernel) _ _ _).trans ?_
  show zres (if narrow .int (.int x) = .int x then _ else none) = _
  rw [if_pos (show narrow .int (.int x) = .int x from rfl)]
  rfl
theorem e87_81 (v0 v1 v2 v3 v4 v5 v6 v7 v9 v10 : Value) (x : Nat) (st : List Value) (w : zH) : zrun none (87, 81, [v0, v1, v2, v3, v4, v5, v6, v7, .ref x, v9, v10], st, w) = zrun none (87, 83, [v0, v1, v2, v3, v4, v5, v6, v7, .ref x, v9, v10], (.ref x :: st), w) := (zE_ (i := .aload 8) (by decide +kernel) _ _ _).trans rfl
theorem e87_81n (v0 v1 v2 v3 v4 v5 v6 v7 v9 v10 : Value) (st : List Value) (w : zH) : zrun none (87, 81, [v0, v1, v2, v3, v4, v5, v6, v7, .null, v9, v10], st, w) = zrun none (87, 83, [v0, v1, v2, v3, v4, v5, v6, v7, .null, v9, v10], (.null :: st), w) := (zE_ (i := .aload 8) (by decide +kernel) _ _ _).trans rfl
theorem e87_83 (v0 v1 v3 v4 v5 v6 v7 v8 v9 v10 : Value) (x : Int32) (st : List Value) (w : zH) : zrun none (87, 83, [v0, v1, .int x, v3, v4, v5, v6, v7, v8, v9, v10], st, w) = zrun none (87, 84, [v0, v1, .int x, v3, v4, v5, v6, v7, v8, v9, v10], (.int x :: st), w) := (zE_ (i := .iload_n 2) (by decide +kernel) _ _ _).trans rfl
theorem e87_84 (ls st : List Value) (w : zH) : zrun none (87, 84, ls, st, w) = zrun none (87, 85, ls, (.int 2 :: st), w) := (zE_ (i := .iconst 2) (by decide +kernel) _ _ _).trans rfl
theorem e87_85 (v0 v1 v2 v4 v5 v6 v7 v8 v9 v10 : Value) (x : Int32) (st : List Value) (w : zH) : zrun none (87, 85, [v0, v1, v2, .int x, v4, v5, v6, v7, v8, v9, v10], st, w) = zrun none (87, 86, [v0, v1, v2, .int x, v4, v5, v6, v7, v8, v9, v10], (.int x :: st), w) := (zE_ (i := .iload_n 3) (by decide +kernel) _ _ _).trans rfl
theorem e87_86 (ls : List Value) (a b : Int32) (st : List Value) (w : zH) : zrun none (87, 86, ls, (.int b :: .int a :: st), w) = zrun none (87, 87, ls, (.int (a * b) :: st), w) := (zE_ (i := .imul) (by decide +kernel) _ _ _).trans rfl
theorem e87_87 (ls : List Value) (a : Nat) (x0 : Int32) (x1 : Int32) (st : List Value) (w : zH) (hr : zcat st ≤ 8) : zrun none (87, 87, ls, (.int x1 :: .int x0 :: .ref a :: st), w) = zgd (zis w a 8) (zcl (zrun none (36, 0, [.ref a, .int x0, .int x1], [], w)) (fun r => zrun none (87, 90, ls, r.1.toList ++ st, r.2))) := by
  refine (zE_ (i := .invokevirtual 36) (by decide +kernel) _ _ _).trans ?_
  show zres (zinv none 36 87 87 ls (.int x1 :: .int x0 :: .ref a :: st) w) = _
  unfold zinv
  show zres (if zrc none 36 w (.ref a) = true then zcall 36 [.ref a, .int x0, .int x1] st 87 87 ls w else none) = _
  by_cases hc : zis w a 8
  · rw [if_pos (zrc_is hc (by decide +kernel)), zgd_pos hc]
    exact zq_call hr (Nat.le_of_ble_eq_true rfl) rfl rfl
  · rw [zgd_neg hc, if_neg (fun q => hc (zrc_of q (by decide +kernel)))]
    rfl
theorem e87_90 (ls : List Value) (a : Int32) (st : List Value) (w : zH) : zrun none (87, 90, ls, (.int a :: st), w) = if a = 0 then zrun none (87, 93, ls, st, w) else zrun none (87, 99, ls, st, w) := (zE_ (i := .ifCond .ne 9) (by decide +kernel) _ _ _).trans (zq_if_ne rfl rfl)
theorem e87_93 (v1 v2 v3 v4 v5 v6 v7 v8 v9 v10 : Value) (x : Nat) (st : List Value) (w : zH) : zrun none (87, 93, [.ref x, v1, v2, v3, v4, v5, v6, v7, v8, v9, v10], st, w) = zrun none (87, 94, [.ref x, v1, v2, v3, v4, v5, v6, v7, v8, v9, v10], (.ref x :: st), w) := (zE_ (i := .aload_n 0) (by decide +kernel) _ _ _).trans rfl
theorem e87_94 (ls st : List Value) (w : zH) : zrun none (87, 94, ls, st, w) = zrun none (87, 95, ls, (.int 2 :: st), w) := (zE_ (i := .iconst 2) (by decide +kernel) _ _ _).trans rfl
theorem e87_95 (ls : List Value) (a : Nat) (x0 : Int32) (st : List Value) (w : zH) (hr : zcat st ≤ 8) : zrun none (87, 95, ls, (.int x0 :: .ref a :: st), w) = zgd (zis w a 11) (zcl (zrun none (114, 0, [.ref a, .int x0], [], w)) (fun r => zrun none (87, 98, ls, r.1.toList ++ st, r.2))) := by
  refine (zE_ (i := .invokevirtual 114) (by decide +kernel) _ _ _).trans ?_
  show zres (zinv none 114 87 95 ls (.int x0 :: .ref a :: st) w) = _
  unfold zinv
  show zres (if zrc none 114 w (.ref a) = true then zcall 114 [.ref a, .int x0] st 87 95 ls w else none) = _
  by_cases hc : zis w a 11
  · rw [if_pos (zrc_is hc (by decide +kernel)), zgd_pos hc]
    exact zq_call hr (Nat.le_of_ble_eq_true rfl) rfl rfl
  · rw [zgd_neg hc, if_neg (fun q => hc (zrc_of q (by decide +kernel)))]
    rfl
theorem e87_98 (ls : List Value) (x : Int32) (w : zH) : zrun none (87, 98, ls, [.int x], w) = some (some (.int x), w) := by
  refine (zE_ (i := .ireturn) (by decide +kernel) _ _ _).trans ?_
  show zres (if narrow .int (.int x) = .int x then _ else none) = _
  rw [if_pos (show narrow .int (.int x) = .int x from rfl)]
  rfl
theorem e87_99 (v0 v1 v2 v3 v4 v5 v6 v7 v9 v10 : Value) (x : Nat) (st : List Value) (w : zH) : zrun none (87, 99, [v0, v1, v2, v3, v4, v5, v6, v7, .ref x, v9, v10], st, w) = zrun none (87, 101, [v0, v1, v2, v3, v4, v5, v6, v7, .ref x, v9, v10], (.ref x :: st), w) := (zE_ (i := .aload 8) (by decide +kernel) _ _ _).trans rfl
theorem e87_99n (v0 v1 v2 v3 v4 v5 v6 v7 v9 v10 : Value) (st : List Value) (w : zH) : zrun none (87, 99, [v0, v1, v2, v3, v4, v5, v6, v7, .null, v9, v10], st, w) = zrun none (87, 101, [v0, v1, v2, v3, v4, v5, v6, v7, .null, v9, v10], (.null :: st), w) := (zE_ (i := .aload 8) (by decide +kernel) _ _ _).trans rfl
theorem e87_101 (v0 v1 v3 v4 v5 v6 v7 v8 v9 v10 : Value) (x : Int32) (st : List Value) (w : zH) : zrun none (87, 101, [v0, v1, .int x, v3, v4, v5, v6, v7, v8, v9, v10], st, w) = zrun none (87, 102, [v0, v1, .int x, v3, v4, v5, v6, v7, v8, v9, v10], (.int x :: st), w) := (zE_ (i := .iload_n 2) (by decide +kernel) _ _ _).trans rfl
theorem e87_102 (v0 v1 v2 v4 v5 v6 v7 v8 v9 v10 : Value) (x : Int32) (st : List Value) (w : zH) : zrun none (87, 102, [v0, v1, v2, .int x, v4, v5, v6, v7, v8, v9, v10], st, w) = zrun none (87, 103, [v0, v1, v2, .int x, v4, v5, v6, v7, v8, v9, v10], (.int x :: st), w) := (zE_ (i := .iload_n 3) (by decide +kernel) _ _ _).trans rfl
theorem e87_103 (ls st : List Value) (w : zH) : zrun none (87, 103, ls, st, w) = zrun none (87, 106, ls, (.int 1000 :: st), w) := (zE_ (i := .sipush 1000) (by decide +kernel) _ _ _).trans rfl
theorem e87_106 (ls : List Value) (a : Nat) (x0 : Int32) (x1 : Int32) (x2 : Int32) (st : List Value) (w : zH) (hr : zcat st ≤ 8) : zrun none (87, 106, ls, (.int x2 :: .int x1 :: .int x0 :: .ref a :: st), w) = zgd (zis w a 8) (zcl (zrun none (40, 0, [.ref a, .int x0, .int x1, .int x2, zJ], [], w)) (fun r => zrun none (87, 109, ls, r.1.toList ++ st, r.2))) := by
  refine (zE_ (i := .invokevirtual 40) (by decide +kernel) _ _ _).trans ?_
  show zres (zinv none 40 87 106 ls (.int x2 :: .int x1 :: .int x0 :: .ref a :: st) w) = _
  unfold zinv
  show zres (if zrc none 40 w (.ref a) = true then zcall 40 [.ref a, .int x0, .int x1, .int x2] st 87 106 ls w else none) = _
  by_cases hc : zis w a 8
  · rw [if_pos (zrc_is hc (by decide +kernel)), zgd_pos hc]
    exact zq_call hr (Nat.le_of_ble_eq_true rfl) rfl rfl
  · rw [zgd_neg hc, if_neg (fun q => hc (zrc_of q (by decide +kernel)))]
    rfl
theorem e87_109 (ls : List Value) (a : Int32) (st : List Value) (w : zH) : zrun none (87, 109, ls, (.int a :: st), w) = if a = 0 then zrun none (87, 112, ls, st, w) else zrun none (87, 115, ls, st, w) := (zE_ (i := .ifCond .ne 6) (by decide +kernel) _ _ _).trans (zq_if_ne rfl rfl)
theorem e87_112 (ls st : List Value) (w : zH) : zrun none (87, 112, ls, st, w) = zrun none (87, 114, ls, (.int (-1000001) :: st), w) := (zE_ (i := .bipush (-1000001)) (by decide +kernel) _ _ _).trans rfl
theorem e87_114 (ls : List Value) (x : Int32) (w : zH) : zrun none (87, 114, ls, [.int x], w) = some (some (.int x), w) := by
  refine (zE_ (i := .ireturn) (by decide +kernel) _ _ _).trans ?_
  show zres (if narrow .int (.int x) = .int x then _ else none) = _
  rw [if_pos (show narrow .int (.int x) = .int x from rfl)]
  rfl
theorem e87_115 (v1 v2 v3 v4 v5 v6 v7 v8 v9 v10 : Value) (x : Nat) (st : List Value) (w : zH) : zrun none (87, 115, [.ref x, v1, v2, v3, v4, v5, v6, v7, v8, v9, v10], st, w) = zrun none (87, 116, [.ref x, v1, v2, v3, v4, v5, v6, v7, v8, v9, v10], (.ref x :: st), w) := (zE_ (i := .aload_n 0) (by decide +kernel) _ _ _).trans rfl
theorem e87_116 (v0 v1 v2 v3 v4 v5 v6 v7 v9 v10 : Value) (x : Nat) (st : List Value) (w : zH) : zrun none (87, 116, [v0, v1, v2, v3, v4, v5, v6, v7, .ref x, v9, v10], st, w) = zrun none (87, 118, [v0, v1, v2, v3, v4, v5, v6, v7, .ref x, v9, v10], (.ref x :: st), w) := (zE_ (i := .aload 8) (by decide +kernel) _ _ _).trans rfl
theorem e87_116n (v0 v1 v2 v3 v4 v5 v6 v7 v9 v10 : Value) (st : List Value) (w : zH) : zrun none (87, 116, [v0, v1, v2, v3, v4, v5, v6, v7, .null, v9, v10], st, w) = zrun none (87, 118, [v0, v1, v2, v3, v4, v5, v6, v7, .null, v9, v10], (.null :: st), w) := (zE_ (i := .aload 8) (by decide +kernel) _ _ _).trans rfl
theorem e87_118 (v0 v1 v3 v4 v5 v6 v7 v8 v9 v10 : Value) (x : Int32) (st : List Value) (w : zH) : zrun none (87, 118, [v0, v1, .int x, v3, v4, v5, v6, v7, v8, v9, v10], st, w) = zrun none (87, 119, [v0, v1, .int x, v3, v4, v5, v6, v7, v8, v9, v10], (.int x :: st), w) := (zE_ (i := .iload_n 2) (by decide +kernel) _ _ _).trans rfl
theorem e87_119 (v0 v1 v2 v4 v5 v6 v7 v8 v9 v10 : Value) (x : Int32) (st : List Value) (w : zH) : zrun none (87, 119, [v0, v1, v2, .int x, v4, v5, v6, v7, v8, v9, v10], st, w) = zrun none (87, 120, [v0, v1, v2, .int x, v4, v5, v6, v7, v8, v9, v10], (.int x :: st), w) := (zE_ (i := .iload_n 3) (by decide +kernel) _ _ _).trans rfl
theorem e87_120 (v0 v1 v2 v3 v5 v6 v7 v8 v9 v10 : Value) (x : Int32) (st : List Value) (w : zH) : zrun none (87, 120, [v0, v1, v2, v3, .int x, v5, v6, v7, v8, v9, v10], st, w) = zrun none (87, 122, [v0, v1, v2, v3, .int x, v5, v6, v7, v8, v9, v10], (.int x :: st), w) := (zE_ (i := .iload 4) (by decide +kernel) _ _ _).trans rfl
theorem e87_122 (ls : List Value) (a : Nat) (x0 : Nat) (x1 : Int32) (x2 : Int32) (x3 : Int32) (st : List Value) (w : zH) (hr : zcat st ≤ 8) : zrun none (87, 122, ls, (.int x3 :: .int x2 :: .int x1 :: .ref x0 :: .ref a :: st), w) = zgd (zis w a 11) (zcl (zrun none (132, 0, [.ref a, .ref x0, .int x1, .int x2, .int x3, zJ, zJ, zJ, zJ, zJ, zJ], [], w)) (fun r => zrun none (87, 125, ls, r.1.toList ++ st, r.2))) := by
  refine (zE_ (i := .invokevirtual 132) (by decide +kernel) _ _ _).trans ?_
  show zres (zinv none 132 87 122 ls (.int x3 :: .int x2 :: .int x1 :: .ref x0 :: .ref a :: st) w) = _
  unfold zinv
  show zres (if zrc none 132 w (.ref a) = true then zcall 132 [.ref a, .ref x0, .int x1, .int x2, .int x3] st 87 122 ls w else none) = _
  by_cases hc : zis w a 11
  · rw [if_pos (zrc_is hc (by decide +kernel)), zgd_pos hc]
    exact zq_call hr (Nat.le_of_ble_eq_true rfl) rfl rfl
  · rw [zgd_neg hc, if_neg (fun q => hc (zrc_of q (by decide +kernel)))]
    rfl
theorem e87_125 (v0 v1 v2 v3 v4 v5 v6 v7 v8 v9 v10 : Value) (x : Int32) (st : List Value) (w : zH) (h : v8.category = 1) : zrun none (87, 125, [v0, v1, v2, v3, v4, v5, v6, v7, v8, v9, v10], (.int x :: st), w) = zrun none (87, 127, [v0, v1, v2, v3, v4, v5, v6, v7, v8, .int x, v10], st, w) := by
  refine (zE_ (i := .istore 9) (by decide +kernel) _ _ _).trans ?_
  have hz : zfree [v0, v1, v2, v3, v4, v5, v6, v7, v8, v9, v10] 9 = true := by show decide (v8.category = 1) = true; exact decide_eq_true h
  show zres (zst zint 9 2 87 125 [v0, v1, v2, v3, v4, v5, v6, v7, v8, v9, v10] (.int x :: st) w) = _
  unfold zst
  dsimp only
  rw [if_pos ⟨rfl, Nat.le_of_ble_eq_true rfl, hz⟩]
  rfl
theorem e87_127 (v0 v1 v2 v3 v4 v5 v6 v7 v8 v10 : Value) (x : Int32) (st : List Value) (w : zH) : zrun none (87, 127, [v0, v1, v2, v3, v4, v5, v6, v7, v8, .int x, v10], st, w) = zrun none (87, 129, [v0, v1, v2, v3, v4, v5, v6, v7, v8, .int x, v10], (.int x :: st), w) := (zE_ (i := .iload 9) (by decide +kernel) _ _ _).trans rfl
theorem e87_129 (ls st : List Value) (w : zH) : zrun none (87, 129, ls, st, w) = zrun none (87, 132, ls, (.int (-1000000) :: st), w) := (zE_ (i := .sipush (-1000000)) (by decide +kernel) _ _ _).trans rfl
theorem e87_132 (ls : List Value) (a b : Int32) (st : List Value) (w : zH) : zrun none (87, 132, ls, (.int b :: .int a :: st), w) = if a = b then zrun none (87, 140, ls, st, w) else zrun none (87, 135, ls, st, w) := (zE_ (i := .if_icmp .eq 8) (by decide +kernel) _ _ _).trans (zq_ic_eq rfl rfl)
theorem e87_135 (v0 v1 v2 v3 v4 v5 v6 v8 v9 v10 : Value) (x : Int32) (st : List Value) (w : zH) : zrun none (87, 135, [v0, v1, v2, v3, v4, v5, v6, .int x, v8, v9, v10], st, w) = zrun none (87, 137, [v0, v1, v2, v3, v4, v5, v6, .int x, v8, v9, v10], (.int x :: st), w) := (zE_ (i := .iload 7) (by decide +kernel) _ _ _).trans rfl
theorem e87_137 (ls : List Value) (a : Int32) (st : List Value) (w : zH) : zrun none (87, 137, ls, (.int a :: st), w) = if a = 0 then zrun none (87, 140, ls, st, w) else zrun none (87, 147, ls, st, w) := (zE_ (i := .ifCond .ne 10) (by decide +kernel) _ _ _).trans (zq_if_ne rfl rfl)
theorem e87_140 (v1 v2 v3 v4 v5 v6 v7 v8 v9 v10 : Value) (x : Nat) (st : List Value) (w : zH) : zrun none (87, 140, [.ref x, v1, v2, v3, v4, v5, v6, v7, v8, v9, v10], st, w) = zrun none (87, 141, [.ref x, v1, v2, v3, v4, v5, v6, v7, v8, v9, v10], (.ref x :: st), w) := (zE_ (i := .aload_n 0) (by decide +kernel) _ _ _).trans rfl
theorem e87_141 (v0 v1 v2 v3 v4 v5 v6 v7 v8 v10 : Value) (x : Int32) (st : List Value) (w : zH) : zrun none (87, 141, [v0, v1, v2, v3, v4, v5, v6, v7, v8, .int x, v10], st, w) = zrun none (87, 143, [v0, v1, v2, v3, v4, v5, v6, v7, v8, .int x, v10], (.int x :: st), w) := (zE_ (i := .iload 9) (by decide +kernel) _ _ _).trans rfl
theorem e87_143 (ls : List Value) (a : Nat) (x0 : Int32) (st : List Value) (w : zH) (hr : zcat st ≤ 8) : zrun none (87, 143, ls, (.int x0 :: .ref a :: st), w) = zgd (zis w a 11) (zcl (zrun none (115, 0, [.ref a, .int x0], [], w)) (fun r => zrun none (87, 146, ls, r.1.toList ++ st, r.2))) := by
  refine (zE_ (i := .invokevirtual 115) (by decide +kernel) _ _ _).trans ?_
  show zres (zinv none 115 87 143 ls (.int x0 :: .ref a :: st) w) = _
  unfold zinv
  show zres (if zrc none 115 w (.ref a) = true then zcall 115 [.ref a, .int x0] st 87 143 ls w else none) = _
  by_cases hc : zis w a 11
  · rw [if_pos (zrc_is hc (by decide +kernel)), zgd_pos hc]
    exact zq_call hr (Nat.le_of_ble_eq_true rfl) rfl rfl
  · rw [zgd_neg hc, if_neg (fun q => hc (zrc_of q (by decide +kernel)))]
    rfl
theorem e87_146 (ls : List Value) (x : Int32) (w : zH) : zrun none (87, 146, ls, [.int x], w) = some (some (.int x), w) := by
  refine (zE_ (i := .ireturn) (by decide +kernel) _ _ _).trans ?_
  show zres (if narrow .int (.int x) = .int x then _ else none) = _
  rw [if_pos (show narrow .int (.int x) = .int x from rfl)]
  rfl
theorem e87_147 (v0 v1 v2 v3 v4 v5 v6 v7 v9 v10 : Value) (x : Nat) (st : List Value) (w : zH) : zrun none (87, 147, [v0, v1, v2, v3, v4, v5, v6, v7, .ref x, v9, v10], st, w) = zrun none (87, 149, [v0, v1, v2, v3, v4, v5, v6, v7, .ref x, v9, v10], (.ref x :: st), w) := (zE_ (i := .aload 8) (by decide +kernel) _ _ _).trans rfl
theorem e87_147n (v0 v1 v2 v3 v4 v5 v6 v7 v9 v10 : Value) (st : List Value) (w : zH) : zrun none (87, 147, [v0, v1, v2, v3, v4, v5, v6, v7, .null, v9, v10], st, w) = zrun none (87, 149, [v0, v1, v2, v3, v4, v5, v6, v7, .null, v9, v10], (.null :: st), w) := (zE_ (i := .aload 8) (by decide +kernel) _ _ _).trans rfl
theorem e87_149 (v0 v1 v2 v3 v4 v5 v6 v7 v8 v10 : Value) (x : Int32) (st : List Value) (w : zH) : zrun none (87, 149, [v0, v1, v2, v3, v4, v5, v6, v7, v8, .int x, v10], st, w) = zrun none (87, 151, [v0, v1, v2, v3, v4, v5, v6, v7, v8, .int x, v10], (.int x :: st), w) := (zE_ (i := .iload 9) (by decide +kernel) _ _ _).trans rfl
theorem e87_151 (v0 v1 v3 v4 v5 v6 v7 v8 v9 v10 : Value) (x : Int32) (st : List Value) (w : zH) : zrun none (87, 151, [v0, v1, .int x, v3, v4, v5, v6, v7, v8, v9, v10], st, w) = zrun none (87, 152, [v0, v1, .int x, v3, v4, v5, v6, v7, v8, v9, v10], (.int x :: st), w) := (zE_ (i := .iload_n 2) (by decide +kernel) _ _ _).trans rfl
theorem e87_152 (ls : List Value) (a : Nat) (x0 : Int32) (x1 : Int32) (st : List Value) (w : zH) (hr : zcat st ≤ 8) : zrun none (87, 152, ls, (.int x1 :: .int x0 :: .ref a :: st), w) = zgd (zis w a 8) (zcl (zrun none (41, 0, [.ref a, .int x0, .int x1, zJ, zJ], [], w)) (fun r => zrun none (87, 155, ls, r.1.toList ++ st, r.2))) := by
  refine (zE_ (i := .invokevirtual 41) (by decide +kernel) _ _ _).trans ?_
  show zres (zinv none 41 87 152 ls (.int x1 :: .int x0 :: .ref a :: st) w) = _
  unfold zinv
  show zres (if zrc none 41 w (.ref a) = true then zcall 41 [.ref a, .int x0, .int x1] st 87 152 ls w else none) = _
  by_cases hc : zis w a 8
  · rw [if_pos (zrc_is hc (by decide +kernel)), zgd_pos hc]
    exact zq_call hr (Nat.le_of_ble_eq_true rfl) rfl rfl
  · rw [zgd_neg hc, if_neg (fun q => hc (zrc_of q (by decide +kernel)))]
    rfl
theorem e87_155 (v0 v1 v2 v3 v4 v5 v6 v7 v8 v9 v10 : Value) (x : Int32) (st : List Value) (w : zH) (h : v9.category = 1) : zrun none (87, 155, [v0, v1, v2, v3, v4, v5, v6, v7, v8, v9, v10], (.int x :: st), w) = zrun none (87, 157, [v0, v1, v2, v3, v4, v5, v6, v7, v8, v9, .int x], st, w) := by
  refine (zE_ (i := .istore 10) (by decide +kernel) _ _ _).trans ?_
  have hz : zfree [v0, v1, v2, v3, v4, v5, v6, v7, v8, v9, v10] 10 = true := by show decide (v9.category = 1) = true; exact decide_eq_true h
  show zres (zst zint 10 2 87 155 [v0, v1, v2, v3, v4, v5, v6, v7, v8, v9, v10] (.int x :: st) w) = _
  unfold zst
  dsimp only
  rw [if_pos ⟨rfl, Nat.le_of_ble_eq_true rfl, hz⟩]
  rfl
theorem e87_157 (v1 v2 v3 v4 v5 v6 v7 v8 v9 v10 : Value) (x : Nat) (st : List Value) (w : zH) : zrun none (87, 157, [.ref x, v1, v2, v3, v4, v5, v6, v7, v8, v9, v10], st, w) = zrun none (87, 158, [.ref x, v1, v2, v3, v4, v5, v6, v7, v8, v9, v10], (.ref x :: st), w) := (zE_ (i := .aload_n 0) (by decide +kernel) _ _ _).trans rfl
theorem e87_158 (v0 v1 v2 v3 v4 v5 v6 v8 v9 v10 : Value) (x : Int32) (st : List Value) (w : zH) : zrun none (87, 158, [v0, v1, v2, v3, v4, v5, v6, .int x, v8, v9, v10], st, w) = zrun none (87, 160, [v0, v1, v2, v3, v4, v5, v6, .int x, v8, v9, v10], (.int x :: st), w) := (zE_ (i := .iload 7) (by decide +kernel) _ _ _).trans rfl
theorem e87_160 (ls st : List Value) (w : zH) : zrun none (87, 160, ls, st, w) = zrun none (87, 161, ls, (.int 1 :: st), w) := (zE_ (i := .iconst 1) (by decide +kernel) _ _ _).trans rfl
theorem e87_161 (ls : List Value) (a b : Int32) (st : List Value) (w : zH) : zrun none (87, 161, ls, (.int b :: .int a :: st), w) = if a = b then zrun none (87, 164, ls, st, w) else zrun none (87, 169, ls, st, w) := (zE_ (i := .if_icmp .ne 8) (by decide +kernel) _ _ _).trans (zq_ic_ne rfl rfl)
theorem e87_164 (v0 v1 v2 v3 v4 v5 v6 v7 v8 v9 : Value) (x : Int32) (st : List Value) (w : zH) : zrun none (87, 164, [v0, v1, v2, v3, v4, v5, v6, v7, v8, v9, .int x], st, w) = zrun none (87, 166, [v0, v1, v2, v3, v4, v5, v6, v7, v8, v9, .int x], (.int x :: st), w) := (zE_ (i := .iload 10) (by decide +kernel) _ _ _).trans rfl
theorem e87_166 (ls st : List Value) (w : zH) : zrun none (87, 166, ls, st, w) = zrun none (87, 178, ls, st, w) := (zE_ (i := .goto 12) (by decide +kernel) _ _ _).trans rfl
theorem e87_169 (v0 v1 v2 v3 v4 v5 v6 v7 v8 v9 : Value) (x : Int32) (st : List Value) (w : zH) : zrun none (87, 169, [v0, v1, v2, v3, v4, v5, v6, v7, v8, v9, .int x], st, w) = zrun none (87, 171, [v0, v1, v2, v3, v4, v5, v6, v7, v8, v9, .int x], (.int x :: st), w) := (zE_ (i := .iload 10) (by decide +kernel) _ _ _).trans rfl
theorem e87_171 (v0 v1 v2 v3 v4 v6 v7 v8 v9 v10 : Value) (x : Int32) (st : List Value) (w : zH) : zrun none (87, 171, [v0, v1, v2, v3, v4, .int x, v6, v7, v8, v9, v10], st, w) = zrun none (87, 173, [v0, v1, v2, v3, v4, .int x, v6, v7, v8, v9, v10], (.int x :: st), w) := (zE_ (i := .iload 5) (by decide +kernel) _ _ _).trans rfl
theorem e87_173 (v0 v1 v2 v3 v4 v5 v7 v8 v9 v10 : Value) (x : Int32) (st : List Value) (w : zH) : zrun none (87, 173, [v0, v1, v2, v3, v4, v5, .int x, v7, v8, v9, v10], st, w) = zrun none (87, 175, [v0, v1, v2, v3, v4, v5, .int x, v7, v8, v9, v10], (.int x :: st), w) := (zE_ (i := .iload 6) (by decide +kernel) _ _ _).trans rfl
theorem e87_175 (ls : List Value) (x0 : Int32) (x1 : Int32) (x2 : Int32) (st : List Value) (w : zH) (hr : zcat st ≤ 8) : zrun none (87, 175, ls, (.int x2 :: .int x1 :: .int x0 :: st), w) = zcl (zrun none (128, 0, [.int x0, .int x1, .int x2], [], w)) (fun r => zrun none (87, 178, ls, r.1.toList ++ st, r.2)) := by
  refine (zE_ (i := .invokestatic 128) (by decide +kernel) _ _ _).trans ?_
  show zres (if (99 : Nat) = 99 ∧ 3 ≤ ((.int x2 :: .int x1 :: .int x0 :: st) : List Value).length then zcall 128 [.int x0, .int x1, .int x2] st 87 175 ls w else none) = _
  rw [if_pos ⟨rfl, by simp⟩]
  exact zq_call hr (Nat.le_of_ble_eq_true rfl) rfl rfl
theorem e87_178 (ls : List Value) (a : Nat) (x0 : Int32) (st : List Value) (w : zH) (hr : zcat st ≤ 8) : zrun none (87, 178, ls, (.int x0 :: .ref a :: st), w) = zgd (zis w a 11) (zcl (zrun none (115, 0, [.ref a, .int x0], [], w)) (fun r => zrun none (87, 181, ls, r.1.toList ++ st, r.2))) := by
  refine (zE_ (i := .invokevirtual 115) (by decide +kernel) _ _ _).trans ?_
  show zres (zinv none 115 87 178 ls (.int x0 :: .ref a :: st) w) = _
  unfold zinv
  show zres (if zrc none 115 w (.ref a) = true then zcall 115 [.ref a, .int x0] st 87 178 ls w else none) = _
  by_cases hc : zis w a 11
  · rw [if_pos (zrc_is hc (by decide +kernel)), zgd_pos hc]
    exact zq_call hr (Nat.le_of_ble_eq_true rfl) rfl rfl
  · rw [zgd_neg hc, if_neg (fun q => hc (zrc_of q (by decide +kernel)))]
    rfl
theorem e87_181 (ls : List Value) (x : Int32) (w : zH) : zrun none (87, 181, ls, [.int x], w) = some (some (.int x), w) := by
  refine (zE_ (i := .ireturn) (by decide +kernel) _ _ _).trans ?_
  show zres (if narrow .int (.int x) = .int x then _ else none) = _
  rw [if_pos (show narrow .int (.int x) = .int x from rfl)]
  rfl
theorem e88_0 (v0 v2 v3 : Value) (x : Int32) (st : List Value) (w : zH) : zrun none (88, 0, [v0, .int x, v2, v3], st, w) = zrun none (88, 1, [v0, .int x, v2, v3], (.int x :: st), w) := (zE_ (i := .iload_n 1) (by decide +kernel) _ _ _).trans rfl
theorem e88_1 (ls : List Value) (x0 : Int32) (st : List Value) (w : zH) (hr : zcat st ≤ 8) : zrun none (88, 1, ls, (.int x0 :: st), w) = zcl (zrun none (105, 0, [.int x0], [], w)) (fun r => zrun none (88, 4, ls, r.1.toList ++ st, r.2)) := by
  refine (zE_ (i := .invokestatic 105) (by decide +kernel) _ _ _).trans ?_
  show zres (if (99 : Nat) = 99 ∧ 1 ≤ ((.int x0 :: st) : List Value).length then zcall 105 [.int x0] st 88 1 ls w else none) = _
  rw [if_pos ⟨rfl, by simp⟩]
  exact zq_call hr (Nat.le_of_ble_eq_true rfl) rfl rfl
theorem e88_4 (ls : List Value) (a : Int32) (st : List Value) (w : zH) : zrun none (88, 4, ls, (.int a :: st), w) = if a = 0 then zrun none (88, 23, ls, st, w) else zrun none (88, 7, ls, st, w) := (zE_ (i := .ifCond .eq 19) (by decide +kernel) _ _ _).trans (zq_if_eq rfl rfl)
theorem e88_7 (v0 v1 v3 : Value) (x : Int32) (st : List Value) (w : zH) : zrun none (88, 7, [v0, v1, .int x, v3], st, w) = zrun none (88, 8, [v0, v1, .int x, v3], (.int x :: st), w) := (zE_ (i := .iload_n 2) (by decide +kernel) _ _ _).trans rfl
theorem e88_8 (ls st : List Value) (w : zH) : zrun none (88, 8, ls, st, w) = zrun none (88, 9, ls, (.int 0 :: st), w) := (zE_ (i := .iconst 0) (by decide +kernel) _ _ _).trans rfl
theorem e88_9 (ls st : List Value) (w : zH) : zrun none (88, 9, ls, st, w) = zrun none (88, 10, ls, (.int 1 :: st), w) := (zE_ (i := .iconst 1) (by decide +kernel) _ _ _).trans rfl
theorem e88_10 (ls : List Value) (x0 : Int32) (x1 : Int32) (x2 : Int32) (st : List Value) (w : zH) (hr : zcat st ≤ 8) : zrun none (88, 10, ls, (.int x2 :: .int x1 :: .int x0 :: st), w) = zcl (zrun none (100, 0, [.int x0, .int x1, .int x2], [], w)) (fun r => zrun none (88, 13, ls, r.1.toList ++ st, r.2)) := by
  refine (zE_ (i := .invokestatic 100) (by decide +kernel) _ _ _).trans ?_
  show zres (if (99 : Nat) = 99 ∧ 3 ≤ ((.int x2 :: .int x1 :: .int x0 :: st) : List Value).length then zcall 100 [.int x0, .int x1, .int x2] st 88 10 ls w else none) = _
  rw [if_pos ⟨rfl, by simp⟩]
  exact zq_call hr (Nat.le_of_ble_eq_true rfl) rfl rfl
theorem e88_13 (ls : List Value) (a : Int32) (st : List Value) (w : zH) : zrun none (88, 13, ls, (.int a :: st), w) = if a = 0 then zrun none (88, 23, ls, st, w) else zrun none (88, 16, ls, st, w) := (zE_ (i := .ifCond .eq 10) (by decide +kernel) _ _ _).trans (zq_if_eq rfl rfl)
theorem e88_16 (v0 v1 v2 : Value) (x : Int32) (st : List Value) (w : zH) : zrun none (88, 16, [v0, v1, v2, .int x], st, w) = zrun none (88, 17, [v0, v1, v2, .int x], (.int x :: st), w) := (zE_ (i := .iload_n 3) (by decide +kernel) _ _ _).trans rfl
theorem e88_17 (ls : List Value) (x0 : Int32) (st : List Value) (w : zH) (hr : zcat st ≤ 8) : zrun none (88, 17, ls, (.int x0 :: st), w) = zcl (zrun none (101, 0, [.int x0], [], w)) (fun r => zrun none (88, 20, ls, r.1.toList ++ st, r.2)) := by
  refine (zE_ (i := .invokestatic 101) (by decide +kernel) _ _ _).trans ?_
  show zres (if (99 : Nat) = 99 ∧ 1 ≤ ((.int x0 :: st) : List Value).length then zcall 101 [.int x0] st 88 17 ls w else none) = _
  rw [if_pos ⟨rfl, by simp⟩]
  exact zq_call hr (Nat.le_of_ble_eq_true rfl) rfl rfl
theorem e88_20 (ls : List Value) (a : Int32) (st : List Value) (w : zH) : zrun none (88, 20, ls, (.int a :: st), w) = if a = 0 then zrun none (88, 23, ls, st, w) else zrun none (88, 26, ls, st, w) := (zE_ (i := .ifCond .ne 6) (by decide +kernel) _ _ _).trans (zq_if_ne rfl rfl)
theorem e88_23 (ls st : List Value) (w : zH) : zrun none (88, 23, ls, st, w) = zrun none (88, 25, ls, (.int (-1000001) :: st), w) := (zE_ (i := .bipush (-1000001)) (by decide +kernel) _ _ _).trans rfl
theorem e88_25 (ls : List Value) (x : Int32) (w : zH) : zrun none (88, 25, ls, [.int x], w) = some (some (.int x), w) := by
  refine (zE_ (i := .ireturn) (by decide +kernel) _ _ _).trans ?_
  show zres (if narrow .int (.int x) = .int x then _ else none) = _
  rw [if_pos (show narrow .int (.int x) = .int x from rfl)]
  rfl
theorem e88_26 (v1 v2 v3 : Value) (x : Nat) (st : List Value) (w : zH) : zrun none (88, 26, [.ref x, v1, v2, v3], st, w) = zrun none (88, 27, [.ref x, v1, v2, v3], (.ref x :: st), w) := (zE_ (i := .aload_n 0) (by decide +kernel) _ _ _).trans rfl
theorem e88_27 (ls : List Value) (a : Nat) (st : List Value) (w : zH) : zrun none (88, 27, ls, (.ref a :: st), w) = zo (zf w a 1115) (fun x => zrun none (88, 30, ls, (x :: st), w)) := (zE_ (i := .getfield 1115) (by decide +kernel) _ _ _).trans zq_getf
theorem e88_30 (ls st : List Value) (w : zH) : zrun none (88, 30, ls, st, w) = zgd (w.length + 1 < zX) (zrun none (88, 33, ls, (.ref w.length :: st), w ++ [(1, [.int 0, .int 0, .int 0, .int 0, .int 0])])) := by
  refine (zE_ (i := .new 1) (by decide +kernel) _ _ _).trans ?_
  simp only [zI]
  rw [if_pos (by decide)]
  unfold znw
  by_cases h : w.length + 1 < zX
  · rw [if_pos h, zgd_pos h]
    rfl
  · rw [if_neg h, zgd_neg h]
    rfl
theorem e88_33 (ls : List Value) (x : Int32) (st : List Value) (w : zH) : zrun none (88, 33, ls, (.int x :: st), w) = zrun none (88, 34, ls, (.int x :: .int x :: st), w) := (zE_ (i := .dup) (by decide +kernel) _ _ _).trans rfl
theorem e88_33r (ls : List Value) (x : Nat) (st : List Value) (w : zH) : zrun none (88, 33, ls, (.ref x :: st), w) = zrun none (88, 34, ls, (.ref x :: .ref x :: st), w) := (zE_ (i := .dup) (by decide +kernel) _ _ _).trans rfl
theorem e88_34 (v0 v2 v3 : Value) (x : Int32) (st : List Value) (w : zH) : zrun none (88, 34, [v0, .int x, v2, v3], st, w) = zrun none (88, 35, [v0, .int x, v2, v3], (.int x :: st), w) := (zE_ (i := .iload_n 1) (by decide +kernel) _ _ _).trans rfl
theorem e88_35 (v0 v1 v3 : Value) (x : Int32) (st : List Value) (w : zH) : zrun none (88, 35, [v0, v1, .int x, v3], st, w) = zrun none (88, 36, [v0, v1, .int x, v3], (.int x :: st), w) := (zE_ (i := .iload_n 2) (by decide +kernel) _ _ _).trans rfl
theorem e88_36 (v0 v1 v2 : Value) (x : Int32) (st : List Value) (w : zH) : zrun none (88, 36, [v0, v1, v2, .int x], st, w) = zrun none (88, 37, [v0, v1, v2, .int x], (.int x :: st), w) := (zE_ (i := .iload_n 3) (by decide +kernel) _ _ _).trans rfl
theorem e88_37 (ls : List Value) (a : Nat) (x0 : Int32) (x1 : Int32) (x2 : Int32) (st : List Value) (w : zH) (hr : zcat st ≤ 8) : zrun none (88, 37, ls, (.int x2 :: .int x1 :: .int x0 :: .ref a :: st), w) = zgd (zis w a 1) (zcl (zrun none (2, 0, [.ref a, .int x0, .int x1, .int x2], [], w)) (fun r => zrun none (88, 40, ls, r.1.toList ++ st, r.2))) := by
  refine (zE_ (i := .invokespecial 2) (by decide +kernel) _ _ _).trans ?_
  show zres (zinv none 2 88 37 ls (.int x2 :: .int x1 :: .int x0 :: .ref a :: st) w) = _
  unfold zinv
  show zres (if zrc none 2 w (.ref a) = true then zcall 2 [.ref a, .int x0, .int x1, .int x2] st 88 37 ls w else none) = _
  by_cases hc : zis w a 1
  · rw [if_pos (zrc_is hc (by decide +kernel)), zgd_pos hc]
    exact zq_call hr (Nat.le_of_ble_eq_true rfl) rfl rfl
  · rw [zgd_neg hc, if_neg (fun q => hc (zrc_of q (by decide +kernel)))]
    rfl
theorem e88_40 (ls : List Value) (a : Nat) (x0 : Nat) (st : List Value) (w : zH) (hr : zcat st ≤ 8) : zrun none (88, 40, ls, (.ref x0 :: .ref a :: st), w) = zgd (zis w a 2) (zcl (zrun none (4, 0, [.ref a, .ref x0], [], w)) (fun r => zrun none (88, 43, ls, r.1.toList ++ st, r.2))) := by
  refine (zE_ (i := .invokevirtual 4) (by decide +kernel) _ _ _).trans ?_
  show zres (zinv none 4 88 40 ls (.ref x0 :: .ref a :: st) w) = _
  unfold zinv
  show zres (if zrc none 4 w (.ref a) = true then zcall 4 [.ref a, .ref x0] st 88 40 ls w else none) = _
  by_cases hc : zis w a 2
  · rw [if_pos (zrc_is hc (by decide +kernel)), zgd_pos hc]
    exact zq_call hr (Nat.le_of_ble_eq_true rfl) rfl rfl
  · rw [zgd_neg hc, if_neg (fun q => hc (zrc_of q (by decide +kernel)))]
    rfl
theorem e88_43 (ls : List Value) (x : Int32) (w : zH) : zrun none (88, 43, ls, [.int x], w) = some (some (.int x), w) := by
  refine (zE_ (i := .ireturn) (by decide +kernel) _ _ _).trans ?_
  show zres (if narrow .int (.int x) = .int x then _ else none) = _
  rw [if_pos (show narrow .int (.int x) = .int x from rfl)]
  rfl
theorem e89_0 (v1 v2 : Value) (x : Nat) (st : List Value) (w : zH) : zrun none (89, 0, [.ref x, v1, v2], st, w) = zrun none (89, 1, [.ref x, v1, v2], (.ref x :: st), w) := (zE_ (i := .aload_n 0) (by decide +kernel) _ _ _).trans rfl
theorem e89_1 (ls : List Value) (a : Nat) (st : List Value) (w : zH) : zrun none (89, 1, ls, (.ref a :: st), w) = zo (zf w a 1115) (fun x => zrun none (89, 4, ls, (x :: st), w)) := (zE_ (i := .getfield 1115) (by decide +kernel) _ _ _).trans zq_getf
theorem e89_4 (v0 v2 : Value) (x : Int32) (st : List Value) (w : zH) : zrun none (89, 4, [v0, .int x, v2], st, w) = zrun none (89, 5, [v0, .int x, v2], (.int x :: st), w) := (zE_ (i := .iload_n 1) (by decide +kernel) _ _ _).trans rfl
theorem e89_5 (v0 v1 : Value) (x : Int32) (st : List Value) (w : zH) : zrun none (89, 5, [v0, v1, .int x], st, w) = zrun none (89, 6, [v0, v1, .int x], (.int x :: st), w) := (zE_ (i := .iload_n 2) (by decide +kernel) _ _ _).trans rfl
theorem e89_6 (ls : List Value) (a : Nat) (x0 : Int32) (x1 : Int32) (st : List Value) (w : zH) (hr : zcat st ≤ 8) : zrun none (89, 6, ls, (.int x1 :: .int x0 :: .ref a :: st), w) = zgd (zis w a 2) (zcl (zrun none (5, 0, [.ref a, .int x0, .int x1, zJ], [], w)) (fun r => zrun none (89, 9, ls, r.1.toList ++ st, r.2))) := by
  refine (zE_ (i := .invokevirtual 5) (by decide +kernel) _ _ _).trans ?_
  show zres (zinv none 5 89 6 ls (.int x1 :: .int x0 :: .ref a :: st) w) = _
  unfold zinv
  show zres (if zrc none 5 w (.ref a) = true then zcall 5 [.ref a, .int x0, .int x1] st 89 6 ls w else none) = _
  by_cases hc : zis w a 2
  · rw [if_pos (zrc_is hc (by decide +kernel)), zgd_pos hc]
    exact zq_call hr (Nat.le_of_ble_eq_true rfl) rfl rfl
  · rw [zgd_neg hc, if_neg (fun q => hc (zrc_of q (by decide +kernel)))]
    rfl
theorem e89_9 (ls : List Value) (x : Int32) (w : zH) : zrun none (89, 9, ls, [.int x], w) = some (some (.int x), w) := by
  refine (zE_ (i := .ireturn) (by decide +kernel) _ _ _).trans ?_
  show zres (if narrow .int (.int x) = .int x then _ else none) = _
  rw [if_pos (show narrow .int (.int x) = .int x from rfl)]
  rfl
theorem e90_0 (v0 v2 v3 v4 v5 v6 : Value) (x : Int32) (st : List Value) (w : zH) : zrun none (90, 0, [v0, .int x, v2, v3, v4, v5, v6], st, w) = zrun none (90, 1, [v0, .int x, v2, v3, v4, v5, v6], (.int x :: st), w) := (zE_ (i := .iload_n 1) (by decide +kernel) _ _ _).trans rfl
theorem e90_1 (ls : List Value) (x0 : Int32) (st : List Value) (w : zH) (hr : zcat st ≤ 8) : zrun none (90, 1, ls, (.int x0 :: st), w) = zcl (zrun none (105, 0, [.int x0], [], w)) (fun r => zrun none (90, 4, ls, r.1.toList ++ st, r.2)) := by
  refine (zE_ (i := .invokestatic 105) (by decide +kernel) _ _ _).trans ?_
  show zres (if (99 : Nat) = 99 ∧ 1 ≤ ((.int x0 :: st) : List Value).length then zcall 105 [.int x0] st 90 1 ls w else none) = _
  rw [if_pos ⟨rfl, by simp⟩]
  exact zq_call hr (Nat.le_of_ble_eq_true rfl) rfl rfl
theorem e90_4 (ls : List Value) (a : Int32) (st : List Value) (w : zH) : zrun none (90, 4, ls, (.int a :: st), w) = if a = 0 then zrun none (90, 24, ls, st, w) else zrun none (90, 7, ls, st, w) := (zE_ (i := .ifCond .eq 20) (by decide +kernel) _ _ _).trans (zq_if_eq rfl rfl)
theorem e90_7 (v0 v1 v3 v4 v5 v6 : Value) (x : Int32) (st : List Value) (w : zH) : zrun none (90, 7, [v0, v1, .int x, v3, v4, v5, v6], st, w) = zrun none (90, 8, [v0, v1, .int x, v3, v4, v5, v6], (.int x :: st), w) := (zE_ (i := .iload_n 2) (by decide +kernel) _ _ _).trans rfl
theorem e90_8 (ls : List Value) (x0 : Int32) (st : List Value) (w : zH) (hr : zcat st ≤ 8) : zrun none (90, 8, ls, (.int x0 :: st), w) = zcl (zrun none (101, 0, [.int x0], [], w)) (fun r => zrun none (90, 11, ls, r.1.toList ++ st, r.2)) := by
  refine (zE_ (i := .invokestatic 101) (by decide +kernel) _ _ _).trans ?_
  show zres (if (99 : Nat) = 99 ∧ 1 ≤ ((.int x0 :: st) : List Value).length then zcall 101 [.int x0] st 90 8 ls w else none) = _
  rw [if_pos ⟨rfl, by simp⟩]
  exact zq_call hr (Nat.le_of_ble_eq_true rfl) rfl rfl
theorem e90_11 (ls : List Value) (a : Int32) (st : List Value) (w : zH) : zrun none (90, 11, ls, (.int a :: st), w) = if a = 0 then zrun none (90, 24, ls, st, w) else zrun none (90, 14, ls, st, w) := (zE_ (i := .ifCond .eq 13) (by decide +kernel) _ _ _).trans (zq_if_eq rfl rfl)
theorem e90_14 (v0 v1 v2 v3 v5 v6 : Value) (x : Int32) (st : List Value) (w : zH) : zrun none (90, 14, [v0, v1, v2, v3, .int x, v5, v6], st, w) = zrun none (90, 16, [v0, v1, v2, v3, .int x, v5, v6], (.int x :: st), w) := (zE_ (i := .iload 4) (by decide +kernel) _ _ _).trans rfl
theorem e90_16 (ls st : List Value) (w : zH) : zrun none (90, 16, ls, st, w) = zrun none (90, 17, ls, (.int 0 :: st), w) := (zE_ (i := .iconst 0) (by decide +kernel) _ _ _).trans rfl
theorem e90_17 (ls st : List Value) (w : zH) : zrun none (90, 17, ls, st, w) = zrun none (90, 18, ls, (.int 2 :: st), w) := (zE_ (i := .iconst 2) (by decide +kernel) _ _ _).trans rfl
theorem e90_18 (ls : List Value) (x0 : Int32) (x1 : Int32) (x2 : Int32) (st : List Value) (w : zH) (hr : zcat st ≤ 8) : zrun none (90, 18, ls, (.int x2 :: .int x1 :: .int x0 :: st), w) = zcl (zrun none (100, 0, [.int x0, .int x1, .int x2], [], w)) (fun r => zrun none (90, 21, ls, r.1.toList ++ st, r.2)) := by
  refine (zE_ (i := .invokestatic 100) (by decide +kernel) _ _ _).trans ?_
  show zres (if (99 : Nat) = 99 ∧ 3 ≤ ((.int x2 :: .int x1 :: .int x0 :: st) : List Value).length then zcall 100 [.int x0, .int x1, .int x2] st 90 18 ls w else none) = _
  rw [if_pos ⟨rfl, by simp⟩]
  exact zq_call hr (Nat.le_of_ble_eq_true rfl) rfl rfl
theorem e90_21 (ls : List Value) (a : Int32) (st : List Value) (w : zH) : zrun none (90, 21, ls, (.int a :: st), w) = if a = 0 then zrun none (90, 24, ls, st, w) else zrun none (90, 27, ls, st, w) := (zE_ (i := .ifCond .ne 6) (by decide +kernel) _ _ _).trans (zq_if_ne rfl rfl)
theorem e90_24 (ls st : List Value) (w : zH) : zrun none (90, 24, ls, st, w) = zrun none (90, 26, ls, (.int (-1000001) :: st), w) := (zE_ (i := .bipush (-1000001)) (by decide +kernel) _ _ _).trans rfl
theorem e90_26 (ls : List Value) (x : Int32) (w : zH) : zrun none (90, 26, ls, [.int x], w) = some (some (.int x), w) := by
  refine (zE_ (i := .ireturn) (by decide +kernel) _ _ _).trans ?_
  show zres (if narrow .int (.int x) = .int x then _ else none) = _
  rw [if_pos (show narrow .int (.int x) = .int x from rfl)]
  rfl
theorem e90_27 (v1 v2 v3 v4 v5 v6 : Value) (x : Nat) (st : List Value) (w : zH) : zrun none (90, 27, [.ref x, v1, v2, v3, v4, v5, v6], st, w) = zrun none (90, 28, [.ref x, v1, v2, v3, v4, v5, v6], (.ref x :: st), w) := (zE_ (i := .aload_n 0) (by decide +kernel) _ _ _).trans rfl
theorem e90_28 (ls : List Value) (a : Nat) (st : List Value) (w : zH) : zrun none (90, 28, ls, (.ref a :: st), w) = zo (zf w a 1115) (fun x => zrun none (90, 31, ls, (x :: st), w)) := (zE_ (i := .getfield 1115) (by decide +kernel) _ _ _).trans zq_getf
theorem e90_31 (v0 v2 v3 v4 v5 v6 : Value) (x : Int32) (st : List Value) (w : zH) : zrun none (90, 31, [v0, .int x, v2, v3, v4, v5, v6], st, w) = zrun none (90, 32, [v0, .int x, v2, v3, v4, v5, v6], (.int x :: st), w) := (zE_ (i := .iload_n 1) (by decide +kernel) _ _ _).trans rfl
theorem e90_32 (v0 v1 v3 v4 v5 v6 : Value) (x : Int32) (st : List Value) (w : zH) : zrun none (90, 32, [v0, v1, .int x, v3, v4, v5, v6], st, w) = zrun none (90, 33, [v0, v1, .int x, v3, v4, v5, v6], (.int x :: st), w) := (zE_ (i := .iload_n 2) (by decide +kernel) _ _ _).trans rfl
theorem e90_33 (ls : List Value) (a : Nat) (x0 : Int32) (x1 : Int32) (st : List Value) (w : zH) (hr : zcat st ≤ 8) : zrun none (90, 33, ls, (.int x1 :: .int x0 :: .ref a :: st), w) = zgd (zis w a 2) (zcl (zrun none (7, 0, [.ref a, .int x0, .int x1, zJ, zJ], [], w)) (fun r => zrun none (90, 36, ls, r.1.toList ++ st, r.2))) := by
  refine (zE_ (i := .invokevirtual 7) (by decide +kernel) _ _ _).trans ?_
  show zres (zinv none 7 90 33 ls (.int x1 :: .int x0 :: .ref a :: st) w) = _
  unfold zinv
  show zres (if zrc none 7 w (.ref a) = true then zcall 7 [.ref a, .int x0, .int x1] st 90 33 ls w else none) = _
  by_cases hc : zis w a 2
  · rw [if_pos (zrc_is hc (by decide +kernel)), zgd_pos hc]
    exact zq_call hr (Nat.le_of_ble_eq_true rfl) rfl rfl
  · rw [zgd_neg hc, if_neg (fun q => hc (zrc_of q (by decide +kernel)))]
    rfl
theorem e90_36 (v1 v2 v3 v4 v5 v6 : Value) (x : Nat) (st : List Value) (w : zH) : zrun none (90, 36, [.ref x, v1, v2, v3, v4, v5, v6], st, w) = zrun none (90, 37, [.ref x, v1, v2, v3, v4, v5, v6], (.ref x :: st), w) := (zE_ (i := .aload_n 0) (by decide +kernel) _ _ _).trans rfl
theorem e90_37 (ls : List Value) (a : Nat) (st : List Value) (w : zH) : zrun none (90, 37, ls, (.ref a :: st), w) = zo (zf w a 1115) (fun x => zrun none (90, 40, ls, (x :: st), w)) := (zE_ (i := .getfield 1115) (by decide +kernel) _ _ _).trans zq_getf
theorem e90_40 (v0 v1 v2 v4 v5 v6 : Value) (x : Int32) (st : List Value) (w : zH) : zrun none (90, 40, [v0, v1, v2, .int x, v4, v5, v6], st, w) = zrun none (90, 41, [v0, v1, v2, .int x, v4, v5, v6], (.int x :: st), w) := (zE_ (i := .iload_n 3) (by decide +kernel) _ _ _).trans rfl
theorem e90_41 (ls : List Value) (a : Nat) (x0 : Int32) (st : List Value) (w : zH) (hr : zcat st ≤ 8) : zrun none (90, 41, ls, (.int x0 :: .ref a :: st), w) = zgd (zis w a 2) (zcl (zrun none (9, 0, [.ref a, .int x0, zJ, zJ], [], w)) (fun r => zrun none (90, 44, ls, r.1.toList ++ st, r.2))) := by
  refine (zE_ (i := .invokevirtual 9) (by decide +kernel) _ _ _).trans ?_
  show zres (zinv none 9 90 41 ls (.int x0 :: .ref a :: st) w) = _
  unfold zinv
  show zres (if zrc none 9 w (.ref a) = true then zcall 9 [.ref a, .int x0] st 90 41 ls w else none) = _
  by_cases hc : zis w a 2
  · rw [if_pos (zrc_is hc (by decide +kernel)), zgd_pos hc]
    exact zq_call hr (Nat.le_of_ble_eq_true rfl) rfl rfl
  · rw [zgd_neg hc, if_neg (fun q => hc (zrc_of q (by decide +kernel)))]
    rfl
theorem e90_44 (v0 v1 v2 v3 v4 v5 v6 : Value) (x : Int32) (st : List Value) (w : zH) (h : v4.category = 1) : zrun none (90, 44, [v0, v1, v2, v3, v4, v5, v6], (.int x :: st), w) = zrun none (90, 46, [v0, v1, v2, v3, v4, .int x, v6], st, w) := by
  refine (zE_ (i := .istore 5) (by decide +kernel) _ _ _).trans ?_
  have hz : zfree [v0, v1, v2, v3, v4, v5, v6] 5 = true := by show decide (v4.category = 1) = true; exact decide_eq_true h
  show zres (zst zint 5 2 90 44 [v0, v1, v2, v3, v4, v5, v6] (.int x :: st) w) = _
  unfold zst
  dsimp only
  rw [if_pos ⟨rfl, Nat.le_of_ble_eq_true rfl, hz⟩]
  rfl
theorem e90_46 (v1 v2 v3 v4 v5 v6 : Value) (x : Nat) (st : List Value) (w : zH) : zrun none (90, 46, [.ref x, v1, v2, v3, v4, v5, v6], st, w) = zrun none (90, 47, [.ref x, v1, v2, v3, v4, v5, v6], (.ref x :: st), w) := (zE_ (i := .aload_n 0) (by decide +kernel) _ _ _).trans rfl
theorem e90_47 (ls : List Value) (a : Nat) (st : List Value) (w : zH) : zrun none (90, 47, ls, (.ref a :: st), w) = zo (zf w a 1115) (fun x => zrun none (90, 50, ls, (x :: st), w)) := (zE_ (i := .getfield 1115) (by decide +kernel) _ _ _).trans zq_getf
theorem e90_50 (v0 v1 v2 v3 v4 v6 : Value) (x : Int32) (st : List Value) (w : zH) : zrun none (90, 50, [v0, v1, v2, v3, v4, .int x, v6], st, w) = zrun none (90, 52, [v0, v1, v2, v3, v4, .int x, v6], (.int x :: st), w) := (zE_ (i := .iload 5) (by decide +kernel) _ _ _).trans rfl
theorem e90_52 (ls : List Value) (a : Nat) (x0 : Int32) (st : List Value) (w : zH) (hr : zcat st ≤ 8) : zrun none (90, 52, ls, (.int x0 :: .ref a :: st), w) = zgd (zis w a 2) (zcl (zrun none (6, 0, [.ref a, .int x0], [], w)) (fun r => zrun none (90, 55, ls, r.1.toList ++ st, r.2))) := by
  refine (zE_ (i := .invokevirtual 6) (by decide +kernel) _ _ _).trans ?_
  show zres (zinv none 6 90 52 ls (.int x0 :: .ref a :: st) w) = _
  unfold zinv
  show zres (if zrc none 6 w (.ref a) = true then zcall 6 [.ref a, .int x0] st 90 52 ls w else none) = _
  by_cases hc : zis w a 2
  · rw [if_pos (zrc_is hc (by decide +kernel)), zgd_pos hc]
    exact zq_call hr (Nat.le_of_ble_eq_true rfl) rfl rfl
  · rw [zgd_neg hc, if_neg (fun q => hc (zrc_of q (by decide +kernel)))]
    rfl
theorem e90_55 (v0 v1 v2 v3 v4 v5 v6 : Value) (x : Nat) (st : List Value) (w : zH) (h : v5.category = 1) : zrun none (90, 55, [v0, v1, v2, v3, v4, v5, v6], (.ref x :: st), w) = zrun none (90, 57, [v0, v1, v2, v3, v4, v5, .ref x], st, w) := by
  refine (zE_ (i := .astore 6) (by decide +kernel) _ _ _).trans ?_
  have hz : zfree [v0, v1, v2, v3, v4, v5, v6] 6 = true := by show decide (v5.category = 1) = true; exact decide_eq_true h
  show zres (zst zref 6 2 90 55 [v0, v1, v2, v3, v4, v5, v6] (.ref x :: st) w) = _
  unfold zst
  dsimp only
  rw [if_pos ⟨rfl, Nat.le_of_ble_eq_true rfl, hz⟩]
  rfl
theorem e90_55n (v0 v1 v2 v3 v4 v5 v6 : Value) (st : List Value) (w : zH) (h : v5.category = 1) : zrun none (90, 55, [v0, v1, v2, v3, v4, v5, v6], (.null :: st), w) = zrun none (90, 57, [v0, v1, v2, v3, v4, v5, .null], st, w) := by
  refine (zE_ (i := .astore 6) (by decide +kernel) _ _ _).trans ?_
  have hz : zfree [v0, v1, v2, v3, v4, v5, v6] 6 = true := by show decide (v5.category = 1) = true; exact decide_eq_true h
  show zres (zst zref 6 2 90 55 [v0, v1, v2, v3, v4, v5, v6] (.null :: st) w) = _
  unfold zst
  dsimp only
  rw [if_pos ⟨rfl, Nat.le_of_ble_eq_true rfl, hz⟩]
  rfl
theorem e90_57 (v0 v1 v2 v3 v4 v5 : Value) (x : Nat) (st : List Value) (w : zH) : zrun none (90, 57, [v0, v1, v2, v3, v4, v5, .ref x], st, w) = zrun none (90, 59, [v0, v1, v2, v3, v4, v5, .ref x], (.ref x :: st), w) := (zE_ (i := .aload 6) (by decide +kernel) _ _ _).trans rfl
theorem e90_57n (v0 v1 v2 v3 v4 v5 : Value) (st : List Value) (w : zH) : zrun none (90, 57, [v0, v1, v2, v3, v4, v5, .null], st, w) = zrun none (90, 59, [v0, v1, v2, v3, v4, v5, .null], (.null :: st), w) := (zE_ (i := .aload 6) (by decide +kernel) _ _ _).trans rfl
theorem e90_59n (ls st : List Value) (w : zH) : zrun none (90, 59, ls, (.null :: st), w) = zrun none (90, 62, ls, st, w) := (zE_ (i := .ifnonnull 7) (by decide +kernel) _ _ _).trans rfl
theorem e90_59 (ls : List Value) (a : Nat) (st : List Value) (w : zH) (h : a < zX) : zrun none (90, 59, ls, (.ref a :: st), w) = zrun none (90, 66, ls, st, w) := by
  refine (zE_ (i := .ifnonnull 7) (by decide +kernel) _ _ _).trans ?_
  simp only [zI, if_pos h]
  rfl
theorem e90_62 (ls st : List Value) (w : zH) : zrun none (90, 62, ls, st, w) = zrun none (90, 65, ls, (.int (-1000000) :: st), w) := (zE_ (i := .sipush (-1000000)) (by decide +kernel) _ _ _).trans rfl
theorem e90_65 (ls : List Value) (x : Int32) (w : zH) : zrun none (90, 65, ls, [.int x], w) = some (some (.int x), w) := by
  refine (zE_ (i := .ireturn) (by decide +kernel) _ _ _).trans ?_
  show zres (if narrow .int (.int x) = .int x then _ else none) = _
  rw [if_pos (show narrow .int (.int x) = .int x from rfl)]
  rfl
theorem e90_66 (v0 v1 v2 v3 v5 v6 : Value) (x : Int32) (st : List Value) (w : zH) : zrun none (90, 66, [v0, v1, v2, v3, .int x, v5, v6], st, w) = zrun none (90, 68, [v0, v1, v2, v3, .int x, v5, v6], (.int x :: st), w) := (zE_ (i := .iload 4) (by decide +kernel) _ _ _).trans rfl
theorem e90_68 (ls : List Value) (a : Int32) (st : List Value) (w : zH) : zrun none (90, 68, ls, (.int a :: st), w) = if a = 0 then zrun none (90, 96, ls, st, w) else if a = 1 then zrun none (90, 99, ls, st, w) else zrun none (90, 105, ls, st, w) := by
  refine (zE_ (i := .lookupswitch 37 #[(0, 28), (1, 31)]) (by decide +kernel) _ _ _).trans ?_
  by_cases h1000 : a = 0
  · subst h1000
    rfl
  rw [if_neg h1000]
  by_cases h1001 : a = 1
  · subst h1001
    rfl
  rw [if_neg h1001]
  have e : Op.lookupswitch.offset [(0, 28), (1, 31)] 37 a.toInt = 37 := by
    have k1000 := zne32 h1000
    have j1000 : ((0 : Int32)).toInt = 0 := by decide
    rw [j1000] at k1000
    have k1001 := zne32 h1001
    have j1001 : ((1 : Int32)).toInt = 1 := by decide
    rw [j1001] at k1001
    simp only [Op.lookupswitch.offset]
    simp_all
    rw [if_neg (fun q => k1000 q.symm), if_neg (fun q => k1001 q.symm)]
  simp only [zI]
  rw [if_pos (by decide)]
  rw [e]
  rfl
theorem e90_96 (v0 v1 v2 v3 v4 v6 : Value) (x : Int32) (st : List Value) (w : zH) : zrun none (90, 96, [v0, v1, v2, v3, v4, .int x, v6], st, w) = zrun none (90, 98, [v0, v1, v2, v3, v4, .int x, v6], (.int x :: st), w) := (zE_ (i := .iload 5) (by decide +kernel) _ _ _).trans rfl
theorem e90_98 (ls : List Value) (x : Int32) (w : zH) : zrun none (90, 98, ls, [.int x], w) = some (some (.int x), w) := by
  refine (zE_ (i := .ireturn) (by decide +kernel) _ _ _).trans ?_
  show zres (if narrow .int (.int x) = .int x then _ else none) = _
  rw [if_pos (show narrow .int (.int x) = .int x from rfl)]
  rfl
theorem e90_99 (v0 v1 v2 v3 v4 v5 : Value) (x : Nat) (st : List Value) (w : zH) : zrun none (90, 99, [v0, v1, v2, v3, v4, v5, .ref x], st, w) = zrun none (90, 101, [v0, v1, v2, v3, v4, v5, .ref x], (.ref x :: st), w) := (zE_ (i := .aload 6) (by decide +kernel) _ _ _).trans rfl
theorem e90_99n (v0 v1 v2 v3 v4 v5 : Value) (st : List Value) (w : zH) : zrun none (90, 99, [v0, v1, v2, v3, v4, v5, .null], st, w) = zrun none (90, 101, [v0, v1, v2, v3, v4, v5, .null], (.null :: st), w) := (zE_ (i := .aload 6) (by decide +kernel) _ _ _).trans rfl
theorem e90_101 (ls : List Value) (a : Nat) (st : List Value) (w : zH) : zrun none (90, 101, ls, (.ref a :: st), w) = zo (zf w a 104) (fun x => zrun none (90, 104, ls, (x :: st), w)) := (zE_ (i := .getfield 104) (by decide +kernel) _ _ _).trans zq_getf
theorem e90_104 (ls : List Value) (x : Int32) (w : zH) : zrun none (90, 104, ls, [.int x], w) = some (some (.int x), w) := by
  refine (zE_ (i := .ireturn) (by decide +kernel) _ _ _).trans ?_
  show zres (if narrow .int (.int x) = .int x then _ else none) = _
  rw [if_pos (show narrow .int (.int x) = .int x from rfl)]
  rfl
theorem e90_105 (v0 v1 v2 v3 v4 v5 : Value) (x : Nat) (st : List Value) (w : zH) : zrun none (90, 105, [v0, v1, v2, v3, v4, v5, .ref x], st, w) = zrun none (90, 107, [v0, v1, v2, v3, v4, v5, .ref x], (.ref x :: st), w) := (zE_ (i := .aload 6) (by decide +kernel) _ _ _).trans rfl
theorem e90_105n (v0 v1 v2 v3 v4 v5 : Value) (st : List Value) (w : zH) : zrun none (90, 105, [v0, v1, v2, v3, v4, v5, .null], st, w) = zrun none (90, 107, [v0, v1, v2, v3, v4, v5, .null], (.null :: st), w) := (zE_ (i := .aload 6) (by decide +kernel) _ _ _).trans rfl
theorem e90_107 (ls : List Value) (a : Nat) (st : List Value) (w : zH) : zrun none (90, 107, ls, (.ref a :: st), w) = zo (zf w a 100) (fun x => zrun none (90, 110, ls, (x :: st), w)) := (zE_ (i := .getfield 100) (by decide +kernel) _ _ _).trans zq_getf
theorem e90_110 (v0 v2 v3 v4 v5 v6 : Value) (x : Int32) (st : List Value) (w : zH) : zrun none (90, 110, [v0, .int x, v2, v3, v4, v5, v6], st, w) = zrun none (90, 111, [v0, .int x, v2, v3, v4, v5, v6], (.int x :: st), w) := (zE_ (i := .iload_n 1) (by decide +kernel) _ _ _).trans rfl
theorem e90_111 (ls : List Value) (a b : Int32) (st : List Value) (w : zH) : zrun none (90, 111, ls, (.int b :: .int a :: st), w) = zrun none (90, 112, ls, (.int (a ^^^ b) :: st), w) := (zE_ (i := .ixor) (by decide +kernel) _ _ _).trans rfl
theorem e90_112 (ls : List Value) (x : Int32) (w : zH) : zrun none (90, 112, ls, [.int x], w) = some (some (.int x), w) := by
  refine (zE_ (i := .ireturn) (by decide +kernel) _ _ _).trans ?_
  show zres (if narrow .int (.int x) = .int x then _ else none) = _
  rw [if_pos (show narrow .int (.int x) = .int x from rfl)]
  rfl
theorem e91_0 (v0 v2 : Value) (x : Int32) (st : List Value) (w : zH) : zrun none (91, 0, [v0, .int x, v2], st, w) = zrun none (91, 1, [v0, .int x, v2], (.int x :: st), w) := (zE_ (i := .iload_n 1) (by decide +kernel) _ _ _).trans rfl
theorem e91_1 (ls : List Value) (x0 : Int32) (st : List Value) (w : zH) (hr : zcat st ≤ 8) : zrun none (91, 1, ls, (.int x0 :: st), w) = zcl (zrun none (105, 0, [.int x0], [], w)) (fun r => zrun none (91, 4, ls, r.1.toList ++ st, r.2)) := by
  refine (zE_ (i := .invokestatic 105) (by decide +kernel) _ _ _).trans ?_
  show zres (if (99 : Nat) = 99 ∧ 1 ≤ ((.int x0 :: st) : List Value).length then zcall 105 [.int x0] st 91 1 ls w else none) = _
  rw [if_pos ⟨rfl, by simp⟩]
  exact zq_call hr (Nat.le_of_ble_eq_true rfl) rfl rfl
theorem e91_4 (ls : List Value) (a : Int32) (st : List Value) (w : zH) : zrun none (91, 4, ls, (.int a :: st), w) = if a = 0 then zrun none (91, 14, ls, st, w) else zrun none (91, 7, ls, st, w) := (zE_ (i := .ifCond .eq 10) (by decide +kernel) _ _ _).trans (zq_if_eq rfl rfl)
theorem e91_7 (v0 v1 : Value) (x : Int32) (st : List Value) (w : zH) : zrun none (91, 7, [v0, v1, .int x], st, w) = zrun none (91, 8, [v0, v1, .int x], (.int x :: st), w) := (zE_ (i := .iload_n 2) (by decide +kernel) _ _ _).trans rfl
theorem e91_8 (ls : List Value) (x0 : Int32) (st : List Value) (w : zH) (hr : zcat st ≤ 8) : zrun none (91, 8, ls, (.int x0 :: st), w) = zcl (zrun none (101, 0, [.int x0], [], w)) (fun r => zrun none (91, 11, ls, r.1.toList ++ st, r.2)) := by
  refine (zE_ (i := .invokestatic 101) (by decide +kernel) _ _ _).trans ?_
  show zres (if (99 : Nat) = 99 ∧ 1 ≤ ((.int x0 :: st) : List Value).length then zcall 101 [.int x0] st 91 8 ls w else none) = _
  rw [if_pos ⟨rfl, by simp⟩]
  exact zq_call hr (Nat.le_of_ble_eq_true rfl) rfl rfl
theorem e91_11 (ls : List Value) (a : Int32) (st : List Value) (w : zH) : zrun none (91, 11, ls, (.int a :: st), w) = if a = 0 then zrun none (91, 14, ls, st, w) else zrun none (91, 17, ls, st, w) := (zE_ (i := .ifCond .ne 6) (by decide +kernel) _ _ _).trans (zq_if_ne rfl rfl)
theorem e91_14 (ls st : List Value) (w : zH) : zrun none (91, 14, ls, st, w) = zrun none (91, 16, ls, (.int (-1000001) :: st), w) := (zE_ (i := .bipush (-1000001)) (by decide +kernel) _ _ _).trans rfl
theorem e91_16 (ls : List Value) (x : Int32) (w : zH) : zrun none (91, 16, ls, [.int x], w) = some (some (.int x), w) := by
  refine (zE_ (i := .ireturn) (by decide +kernel) _ _ _).trans ?_
  show zres (if narrow .int (.int x) = .int x then _ else none) = _
  rw [if_pos (show narrow .int (.int x) = .int x from rfl)]
  rfl
theorem e91_17 (v1 v2 : Value) (x : Nat) (st : List Value) (w : zH) : zrun none (91, 17, [.ref x, v1, v2], st, w) = zrun none (91, 18, [.ref x, v1, v2], (.ref x :: st), w) := (zE_ (i := .aload_n 0) (by decide +kernel) _ _ _).trans rfl
theorem e91_18 (ls : List Value) (a : Nat) (st : List Value) (w : zH) : zrun none (91, 18, ls, (.ref a :: st), w) = zo (zf w a 1115) (fun x => zrun none (91, 21, ls, (x :: st), w)) := (zE_ (i := .getfield 1115) (by decide +kernel) _ _ _).trans zq_getf
theorem e91_21 (v0 v2 : Value) (x : Int32) (st : List Value) (w : zH) : zrun none (91, 21, [v0, .int x, v2], st, w) = zrun none (91, 22, [v0, .int x, v2], (.int x :: st), w) := (zE_ (i := .iload_n 1) (by decide +kernel) _ _ _).trans rfl
theorem e91_22 (v0 v1 : Value) (x : Int32) (st : List Value) (w : zH) : zrun none (91, 22, [v0, v1, .int x], st, w) = zrun none (91, 23, [v0, v1, .int x], (.int x :: st), w) := (zE_ (i := .iload_n 2) (by decide +kernel) _ _ _).trans rfl
theorem e91_23 (ls : List Value) (a : Nat) (x0 : Int32) (x1 : Int32) (st : List Value) (w : zH) (hr : zcat st ≤ 8) : zrun none (91, 23, ls, (.int x1 :: .int x0 :: .ref a :: st), w) = zgd (zis w a 2) (zcl (zrun none (7, 0, [.ref a, .int x0, .int x1, zJ, zJ], [], w)) (fun r => zrun none (91, 26, ls, r.1.toList ++ st, r.2))) := by
  refine (zE_ (i := .invokevirtual 7) (by decide +kernel) _ _ _).trans ?_
  show zres (zinv none 7 91 23 ls (.int x1 :: .int x0 :: .ref a :: st) w) = _
  unfold zinv
  show zres (if zrc none 7 w (.ref a) = true then zcall 7 [.ref a, .int x0, .int x1] st 91 23 ls w else none) = _
  by_cases hc : zis w a 2
  · rw [if_pos (zrc_is hc (by decide +kernel)), zgd_pos hc]
    exact zq_call hr (Nat.le_of_ble_eq_true rfl) rfl rfl
  · rw [zgd_neg hc, if_neg (fun q => hc (zrc_of q (by decide +kernel)))]
    rfl
theorem e91_26 (v1 v2 : Value) (x : Nat) (st : List Value) (w : zH) : zrun none (91, 26, [.ref x, v1, v2], st, w) = zrun none (91, 27, [.ref x, v1, v2], (.ref x :: st), w) := (zE_ (i := .aload_n 0) (by decide +kernel) _ _ _).trans rfl
theorem e91_27 (ls : List Value) (a : Nat) (st : List Value) (w : zH) : zrun none (91, 27, ls, (.ref a :: st), w) = zo (zf w a 1115) (fun x => zrun none (91, 30, ls, (x :: st), w)) := (zE_ (i := .getfield 1115) (by decide +kernel) _ _ _).trans zq_getf
theorem e91_30 (ls : List Value) (a : Nat) (st : List Value) (w : zH) (hr : zcat st ≤ 8) : zrun none (91, 30, ls, (.ref a :: st), w) = zgd (zis w a 2) (zcl (zrun none (12, 0, [.ref a, zJ, zJ, zJ, zJ], [], w)) (fun r => zrun none (91, 33, ls, r.1.toList ++ st, r.2))) := by
  refine (zE_ (i := .invokevirtual 12) (by decide +kernel) _ _ _).trans ?_
  show zres (zinv none 12 91 30 ls (.ref a :: st) w) = _
  unfold zinv
  show zres (if zrc none 12 w (.ref a) = true then zcall 12 [.ref a] st 91 30 ls w else none) = _
  by_cases hc : zis w a 2
  · rw [if_pos (zrc_is hc (by decide +kernel)), zgd_pos hc]
    exact zq_call hr (Nat.le_of_ble_eq_true rfl) rfl rfl
  · rw [zgd_neg hc, if_neg (fun q => hc (zrc_of q (by decide +kernel)))]
    rfl
theorem e91_33 (ls : List Value) (x : Int32) (w : zH) : zrun none (91, 33, ls, [.int x], w) = some (some (.int x), w) := by
  refine (zE_ (i := .ireturn) (by decide +kernel) _ _ _).trans ?_
  show zres (if narrow .int (.int x) = .int x then _ else none) = _
  rw [if_pos (show narrow .int (.int x) = .int x from rfl)]
  rfl
theorem e92_0 (v1 v2 v3 v4 v5 v6 v7 : Value) (x : Nat) (st : List Value) (w : zH) : zrun none (92, 0, [.ref x, v1, v2, v3, v4, v5, v6, v7], st, w) = zrun none (92, 1, [.ref x, v1, v2, v3, v4, v5, v6, v7], (.ref x :: st), w) := (zE_ (i := .aload_n 0) (by decide +kernel) _ _ _).trans rfl
theorem e92_1 (v0 v2 v3 v4 v5 v6 v7 : Value) (x : Int32) (st : List Value) (w : zH) : zrun none (92, 1, [v0, .int x, v2, v3, v4, v5, v6, v7], st, w) = zrun none (92, 2, [v0, .int x, v2, v3, v4, v5, v6, v7], (.int x :: st), w) := (zE_ (i := .iload_n 1) (by decide +kernel) _ _ _).trans rfl
theorem e92_2 (ls : List Value) (a : Nat) (x0 : Int32) (st : List Value) (w : zH) (hr : zcat st ≤ 8) : zrun none (92, 2, ls, (.int x0 :: .ref a :: st), w) = zgd (zis w a 11) (zcl (zrun none (110, 0, [.ref a, .int x0], [], w)) (fun r => zrun none (92, 5, ls, r.1.toList ++ st, r.2))) := by
  refine (zE_ (i := .invokevirtual 110) (by decide +kernel) _ _ _).trans ?_
  show zres (zinv none 110 92 2 ls (.int x0 :: .ref a :: st) w) = _
  unfold zinv
  show zres (if zrc none 110 w (.ref a) = true then zcall 110 [.ref a, .int x0] st 92 2 ls w else none) = _
  by_cases hc : zis w a 11
  · rw [if_pos (zrc_is hc (by decide +kernel)), zgd_pos hc]
    exact zq_call hr (Nat.le_of_ble_eq_true rfl) rfl rfl
  · rw [zgd_neg hc, if_neg (fun q => hc (zrc_of q (by decide +kernel)))]
    rfl
theorem e92_5 (v0 v1 v2 v3 v4 v5 v6 v7 : Value) (x : Nat) (st : List Value) (w : zH) (h : v5.category = 1) : zrun none (92, 5, [v0, v1, v2, v3, v4, v5, v6, v7], (.ref x :: st), w) = zrun none (92, 7, [v0, v1, v2, v3, v4, v5, .ref x, v7], st, w) := by
  refine (zE_ (i := .astore 6) (by decide +kernel) _ _ _).trans ?_
  have hz : zfree [v0, v1, v2, v3, v4, v5, v6, v7] 6 = true := by show decide (v5.category = 1) = true; exact decide_eq_true h
  show zres (zst zref 6 2 92 5 [v0, v1, v2, v3, v4, v5, v6, v7] (.ref x :: st) w) = _
  unfold zst
  dsimp only
  rw [if_pos ⟨rfl, Nat.le_of_ble_eq_true rfl, hz⟩]
  rfl
theorem e92_5n (v0 v1 v2 v3 v4 v5 v6 v7 : Value) (st : List Value) (w : zH) (h : v5.category = 1) : zrun none (92, 5, [v0, v1, v2, v3, v4, v5, v6, v7], (.null :: st), w) = zrun none (92, 7, [v0, v1, v2, v3, v4, v5, .null, v7], st, w) := by
  refine (zE_ (i := .astore 6) (by decide +kernel) _ _ _).trans ?_
  have hz : zfree [v0, v1, v2, v3, v4, v5, v6, v7] 6 = true := by show decide (v5.category = 1) = true; exact decide_eq_true h
  show zres (zst zref 6 2 92 5 [v0, v1, v2, v3, v4, v5, v6, v7] (.null :: st) w) = _
  unfold zst
  dsimp only
  rw [if_pos ⟨rfl, Nat.le_of_ble_eq_true rfl, hz⟩]
  rfl
theorem e92_7 (v0 v1 v3 v4 v5 v6 v7 : Value) (x : Int32) (st : List Value) (w : zH) : zrun none (92, 7, [v0, v1, .int x, v3, v4, v5, v6, v7], st, w) = zrun none (92, 8, [v0, v1, .int x, v3, v4, v5, v6, v7], (.int x :: st), w) := (zE_ (i := .iload_n 2) (by decide +kernel) _ _ _).trans rfl
theorem e92_8 (v0 v1 v2 v3 v5 v6 v7 : Value) (x : Int32) (st : List Value) (w : zH) : zrun none (92, 8, [v0, v1, v2, v3, .int x, v5, v6, v7], st, w) = zrun none (92, 10, [v0, v1, v2, v3, .int x, v5, v6, v7], (.int x :: st), w) := (zE_ (i := .iload 4) (by decide +kernel) _ _ _).trans rfl
theorem e92_10 (ls : List Value) (a b : Int32) (st : List Value) (w : zH) : zrun none (92, 10, ls, (.int b :: .int a :: st), w) = if a = b then zrun none (92, 13, ls, st, w) else zrun none (92, 23, ls, st, w) := (zE_ (i := .if_icmp .ne 13) (by decide +kernel) _ _ _).trans (zq_ic_ne rfl rfl)
theorem e92_13 (v0 v1 v2 v4 v5 v6 v7 : Value) (x : Int32) (st : List Value) (w : zH) : zrun none (92, 13, [v0, v1, v2, .int x, v4, v5, v6, v7], st, w) = zrun none (92, 14, [v0, v1, v2, .int x, v4, v5, v6, v7], (.int x :: st), w) := (zE_ (i := .iload_n 3) (by decide +kernel) _ _ _).trans rfl
theorem e92_14 (v0 v1 v2 v3 v4 v6 v7 : Value) (x : Int32) (st : List Value) (w : zH) : zrun none (92, 14, [v0, v1, v2, v3, v4, .int x, v6, v7], st, w) = zrun none (92, 16, [v0, v1, v2, v3, v4, .int x, v6, v7], (.int x :: st), w) := (zE_ (i := .iload 5) (by decide +kernel) _ _ _).trans rfl
theorem e92_16 (ls : List Value) (a b : Int32) (st : List Value) (w : zH) : zrun none (92, 16, ls, (.int b :: .int a :: st), w) = if a = b then zrun none (92, 19, ls, st, w) else zrun none (92, 23, ls, st, w) := (zE_ (i := .if_icmp .ne 7) (by decide +kernel) _ _ _).trans (zq_ic_ne rfl rfl)
theorem e92_19 (ls st : List Value) (w : zH) : zrun none (92, 19, ls, st, w) = zrun none (92, 20, ls, (.int 1 :: st), w) := (zE_ (i := .iconst 1) (by decide +kernel) _ _ _).trans rfl
theorem e92_20 (ls st : List Value) (w : zH) : zrun none (92, 20, ls, st, w) = zrun none (92, 24, ls, st, w) := (zE_ (i := .goto 4) (by decide +kernel) _ _ _).trans rfl
theorem e92_23 (ls st : List Value) (w : zH) : zrun none (92, 23, ls, st, w) = zrun none (92, 24, ls, (.int 0 :: st), w) := (zE_ (i := .iconst 0) (by decide +kernel) _ _ _).trans rfl
theorem e92_24 (v0 v1 v2 v3 v4 v5 v6 v7 : Value) (x : Int32) (st : List Value) (w : zH) (h : v6.category = 1) : zrun none (92, 24, [v0, v1, v2, v3, v4, v5, v6, v7], (.int x :: st), w) = zrun none (92, 26, [v0, v1, v2, v3, v4, v5, v6, .int x], st, w) := by
  refine (zE_ (i := .istore 7) (by decide +kernel) _ _ _).trans ?_
  have hz : zfree [v0, v1, v2, v3, v4, v5, v6, v7] 7 = true := by show decide (v6.category = 1) = true; exact decide_eq_true h
  show zres (zst zint 7 2 92 24 [v0, v1, v2, v3, v4, v5, v6, v7] (.int x :: st) w) = _
  unfold zst
  dsimp only
  rw [if_pos ⟨rfl, Nat.le_of_ble_eq_true rfl, hz⟩]
  rfl
theorem e92_26 (v0 v1 v2 v3 v4 v5 v7 : Value) (x : Nat) (st : List Value) (w : zH) : zrun none (92, 26, [v0, v1, v2, v3, v4, v5, .ref x, v7], st, w) = zrun none (92, 28, [v0, v1, v2, v3, v4, v5, .ref x, v7], (.ref x :: st), w) := (zE_ (i := .aload 6) (by decide +kernel) _ _ _).trans rfl
theorem e92_26n (v0 v1 v2 v3 v4 v5 v7 : Value) (st : List Value) (w : zH) : zrun none (92, 26, [v0, v1, v2, v3, v4, v5, .null, v7], st, w) = zrun none (92, 28, [v0, v1, v2, v3, v4, v5, .null, v7], (.null :: st), w) := (zE_ (i := .aload 6) (by decide +kernel) _ _ _).trans rfl
theorem e92_28n (ls st : List Value) (w : zH) : zrun none (92, 28, ls, (.null :: st), w) = zrun none (92, 54, ls, st, w) := (zE_ (i := .ifnull 26) (by decide +kernel) _ _ _).trans rfl
theorem e92_28 (ls : List Value) (a : Nat) (st : List Value) (w : zH) (h : a < zX) : zrun none (92, 28, ls, (.ref a :: st), w) = zrun none (92, 31, ls, st, w) := by
  refine (zE_ (i := .ifnull 26) (by decide +kernel) _ _ _).trans ?_
  simp only [zI, if_pos h]
  rfl
theorem e92_31 (v0 v1 v3 v4 v5 v6 v7 : Value) (x : Int32) (st : List Value) (w : zH) : zrun none (92, 31, [v0, v1, .int x, v3, v4, v5, v6, v7], st, w) = zrun none (92, 32, [v0, v1, .int x, v3, v4, v5, v6, v7], (.int x :: st), w) := (zE_ (i := .iload_n 2) (by decide +kernel) _ _ _).trans rfl
theorem e92_32 (v0 v1 v2 v4 v5 v6 v7 : Value) (x : Int32) (st : List Value) (w : zH) : zrun none (92, 32, [v0, v1, v2, .int x, v4, v5, v6, v7], st, w) = zrun none (92, 33, [v0, v1, v2, .int x, v4, v5, v6, v7], (.int x :: st), w) := (zE_ (i := .iload_n 3) (by decide +kernel) _ _ _).trans rfl
theorem e92_33 (ls : List Value) (x0 : Int32) (x1 : Int32) (st : List Value) (w : zH) (hr : zcat st ≤ 8) : zrun none (92, 33, ls, (.int x1 :: .int x0 :: st), w) = zcl (zrun none (106, 0, [.int x0, .int x1], [], w)) (fun r => zrun none (92, 36, ls, r.1.toList ++ st, r.2)) := by
  refine (zE_ (i := .invokestatic 106) (by decide +kernel) _ _ _).trans ?_
  show zres (if (99 : Nat) = 99 ∧ 2 ≤ ((.int x1 :: .int x0 :: st) : List Value).length then zcall 106 [.int x0, .int x1] st 92 33 ls w else none) = _
  rw [if_pos ⟨rfl, by simp⟩]
  exact zq_call hr (Nat.le_of_ble_eq_true rfl) rfl rfl
theorem e92_36 (ls : List Value) (a : Int32) (st : List Value) (w : zH) : zrun none (92, 36, ls, (.int a :: st), w) = if a = 0 then zrun none (92, 54, ls, st, w) else zrun none (92, 39, ls, st, w) := (zE_ (i := .ifCond .eq 18) (by decide +kernel) _ _ _).trans (zq_if_eq rfl rfl)
theorem e92_39 (v0 v1 v2 v3 v5 v6 v7 : Value) (x : Int32) (st : List Value) (w : zH) : zrun none (92, 39, [v0, v1, v2, v3, .int x, v5, v6, v7], st, w) = zrun none (92, 41, [v0, v1, v2, v3, .int x, v5, v6, v7], (.int x :: st), w) := (zE_ (i := .iload 4) (by decide +kernel) _ _ _).trans rfl
theorem e92_41 (v0 v1 v2 v3 v4 v6 v7 : Value) (x : Int32) (st : List Value) (w : zH) : zrun none (92, 41, [v0, v1, v2, v3, v4, .int x, v6, v7], st, w) = zrun none (92, 43, [v0, v1, v2, v3, v4, .int x, v6, v7], (.int x :: st), w) := (zE_ (i := .iload 5) (by decide +kernel) _ _ _).trans rfl
theorem e92_43 (ls : List Value) (x0 : Int32) (x1 : Int32) (st : List Value) (w : zH) (hr : zcat st ≤ 8) : zrun none (92, 43, ls, (.int x1 :: .int x0 :: st), w) = zcl (zrun none (106, 0, [.int x0, .int x1], [], w)) (fun r => zrun none (92, 46, ls, r.1.toList ++ st, r.2)) := by
  refine (zE_ (i := .invokestatic 106) (by decide +kernel) _ _ _).trans ?_
  show zres (if (99 : Nat) = 99 ∧ 2 ≤ ((.int x1 :: .int x0 :: st) : List Value).length then zcall 106 [.int x0, .int x1] st 92 43 ls w else none) = _
  rw [if_pos ⟨rfl, by simp⟩]
  exact zq_call hr (Nat.le_of_ble_eq_true rfl) rfl rfl
theorem e92_46 (ls : List Value) (a : Int32) (st : List Value) (w : zH) : zrun none (92, 46, ls, (.int a :: st), w) = if a = 0 then zrun none (92, 54, ls, st, w) else zrun none (92, 49, ls, st, w) := (zE_ (i := .ifCond .eq 8) (by decide +kernel) _ _ _).trans (zq_if_eq rfl rfl)
theorem e92_49 (v0 v1 v2 v3 v4 v5 v6 : Value) (x : Int32) (st : List Value) (w : zH) : zrun none (92, 49, [v0, v1, v2, v3, v4, v5, v6, .int x], st, w) = zrun none (92, 51, [v0, v1, v2, v3, v4, v5, v6, .int x], (.int x :: st), w) := (zE_ (i := .iload 7) (by decide +kernel) _ _ _).trans rfl
theorem e92_51 (ls : List Value) (a : Int32) (st : List Value) (w : zH) : zrun none (92, 51, ls, (.int a :: st), w) = if a = 0 then zrun none (92, 57, ls, st, w) else zrun none (92, 54, ls, st, w) := (zE_ (i := .ifCond .eq 6) (by decide +kernel) _ _ _).trans (zq_if_eq rfl rfl)
theorem e92_54 (ls st : List Value) (w : zH) : zrun none (92, 54, ls, st, w) = zrun none (92, 56, ls, (.int (-1000001) :: st), w) := (zE_ (i := .bipush (-1000001)) (by decide +kernel) _ _ _).trans rfl
theorem e92_56 (ls : List Value) (x : Int32) (w : zH) : zrun none (92, 56, ls, [.int x], w) = some (some (.int x), w) := by
  refine (zE_ (i := .ireturn) (by decide +kernel) _ _ _).trans ?_
  show zres (if narrow .int (.int x) = .int x then _ else none) = _
  rw [if_pos (show narrow .int (.int x) = .int x from rfl)]
  rfl
theorem e92_57 (v0 v1 v2 v3 v4 v5 v7 : Value) (x : Nat) (st : List Value) (w : zH) : zrun none (92, 57, [v0, v1, v2, v3, v4, v5, .ref x, v7], st, w) = zrun none (92, 59, [v0, v1, v2, v3, v4, v5, .ref x, v7], (.ref x :: st), w) := (zE_ (i := .aload 6) (by decide +kernel) _ _ _).trans rfl
theorem e92_57n (v0 v1 v2 v3 v4 v5 v7 : Value) (st : List Value) (w : zH) : zrun none (92, 57, [v0, v1, v2, v3, v4, v5, .null, v7], st, w) = zrun none (92, 59, [v0, v1, v2, v3, v4, v5, .null, v7], (.null :: st), w) := (zE_ (i := .aload 6) (by decide +kernel) _ _ _).trans rfl
theorem e92_59 (ls : List Value) (a : Nat) (st : List Value) (w : zH) : zrun none (92, 59, ls, (.ref a :: st), w) = zo (zf w a 801) (fun x => zrun none (92, 62, ls, (x :: st), w)) := (zE_ (i := .getfield 801) (by decide +kernel) _ _ _).trans zq_getf
theorem e92_62 (ls : List Value) (a : Int32) (st : List Value) (w : zH) : zrun none (92, 62, ls, (.int a :: st), w) = if a = 0 then zrun none (92, 65, ls, st, w) else zrun none (92, 71, ls, st, w) := (zE_ (i := .ifCond .ne 9) (by decide +kernel) _ _ _).trans (zq_if_ne rfl rfl)
theorem e92_65 (v1 v2 v3 v4 v5 v6 v7 : Value) (x : Nat) (st : List Value) (w : zH) : zrun none (92, 65, [.ref x, v1, v2, v3, v4, v5, v6, v7], st, w) = zrun none (92, 66, [.ref x, v1, v2, v3, v4, v5, v6, v7], (.ref x :: st), w) := (zE_ (i := .aload_n 0) (by decide +kernel) _ _ _).trans rfl
theorem e92_66 (ls st : List Value) (w : zH) : zrun none (92, 66, ls, st, w) = zrun none (92, 67, ls, (.int 1 :: st), w) := (zE_ (i := .iconst 1) (by decide +kernel) _ _ _).trans rfl
theorem e92_67 (ls : List Value) (a : Nat) (x0 : Int32) (st : List Value) (w : zH) (hr : zcat st ≤ 8) : zrun none (92, 67, ls, (.int x0 :: .ref a :: st), w) = zgd (zis w a 11) (zcl (zrun none (114, 0, [.ref a, .int x0], [], w)) (fun r => zrun none (92, 70, ls, r.1.toList ++ st, r.2))) := by
  refine (zE_ (i := .invokevirtual 114) (by decide +kernel) _ _ _).trans ?_
  show zres (zinv none 114 92 67 ls (.int x0 :: .ref a :: st) w) = _
  unfold zinv
  show zres (if zrc none 114 w (.ref a) = true then zcall 114 [.ref a, .int x0] st 92 67 ls w else none) = _
  by_cases hc : zis w a 11
  · rw [if_pos (zrc_is hc (by decide +kernel)), zgd_pos hc]
    exact zq_call hr (Nat.le_of_ble_eq_true rfl) rfl rfl
  · rw [zgd_neg hc, if_neg (fun q => hc (zrc_of q (by decide +kernel)))]
    rfl
theorem e92_70 (ls : List Value) (x : Int32) (w : zH) : zrun none (92, 70, ls, [.int x], w) = some (some (.int x), w) := by
  refine (zE_ (i := .ireturn) (by decide +kernel) _ _ _).trans ?_
  show zres (if narrow .int (.int x) = .int x then _ else none) = _
  rw [if_pos (show narrow .int (.int x) = .int x from rfl)]
  rfl
theorem e92_71 (v0 v1 v2 v3 v4 v5 v7 : Value) (x : Nat) (st : List Value) (w : zH) : zrun none (92, 71, [v0, v1, v2, v3, v4, v5, .ref x, v7], st, w) = zrun none (92, 73, [v0, v1, v2, v3, v4, v5, .ref x, v7], (.ref x :: st), w) := (zE_ (i := .aload 6) (by decide +kernel) _ _ _).trans rfl
theorem e92_71n (v0 v1 v2 v3 v4 v5 v7 : Value) (st : List Value) (w : zH) : zrun none (92, 71, [v0, v1, v2, v3, v4, v5, .null, v7], st, w) = zrun none (92, 73, [v0, v1, v2, v3, v4, v5, .null, v7], (.null :: st), w) := (zE_ (i := .aload 6) (by decide +kernel) _ _ _).trans rfl
theorem e92_73 (ls st : List Value) (w : zH) : zrun none (92, 73, ls, st, w) = zrun none (92, 74, ls, (.int 0 :: st), w) := (zE_ (i := .iconst 0) (by decide +kernel) _ _ _).trans rfl
theorem e92_74 (ls st : List Value) (w : zH) : zrun none (92, 74, ls, st, w) = zrun none (92, 76, ls, (.int 100 :: st), w) := (zE_ (i := .bipush 100) (by decide +kernel) _ _ _).trans rfl
theorem e92_76 (ls : List Value) (a : Nat) (x0 : Int32) (x1 : Int32) (st : List Value) (w : zH) (hr : zcat st ≤ 8) : zrun none (92, 76, ls, (.int x1 :: .int x0 :: .ref a :: st), w) = zgd (zis w a 8) (zcl (zrun none (36, 0, [.ref a, .int x0, .int x1], [], w)) (fun r => zrun none (92, 79, ls, r.1.toList ++ st, r.2))) := by
  refine (zE_ (i := .invokevirtual 36) (by decide +kernel) _ _ _).trans ?_
  show zres (zinv none 36 92 76 ls (.int x1 :: .int x0 :: .ref a :: st) w) = _
  unfold zinv
  show zres (if zrc none 36 w (.ref a) = true then zcall 36 [.ref a, .int x0, .int x1] st 92 76 ls w else none) = _
  by_cases hc : zis w a 8
  · rw [if_pos (zrc_is hc (by decide +kernel)), zgd_pos hc]
    exact zq_call hr (Nat.le_of_ble_eq_true rfl) rfl rfl
  · rw [zgd_neg hc, if_neg (fun q => hc (zrc_of q (by decide +kernel)))]
    rfl
theorem e92_79 (ls : List Value) (a : Int32) (st : List Value) (w : zH) : zrun none (92, 79, ls, (.int a :: st), w) = if a = 0 then zrun none (92, 82, ls, st, w) else zrun none (92, 88, ls, st, w) := (zE_ (i := .ifCond .ne 9) (by decide +kernel) _ _ _).trans (zq_if_ne rfl rfl)
theorem e92_82 (v1 v2 v3 v4 v5 v6 v7 : Value) (x : Nat) (st : List Value) (w : zH) : zrun none (92, 82, [.ref x, v1, v2, v3, v4, v5, v6, v7], st, w) = zrun none (92, 83, [.ref x, v1, v2, v3, v4, v5, v6, v7], (.ref x :: st), w) := (zE_ (i := .aload_n 0) (by decide +kernel) _ _ _).trans rfl
theorem e92_83 (ls st : List Value) (w : zH) : zrun none (92, 83, ls, st, w) = zrun none (92, 84, ls, (.int 2 :: st), w) := (zE_ (i := .iconst 2) (by decide +kernel) _ _ _).trans rfl
theorem e92_84 (ls : List Value) (a : Nat) (x0 : Int32) (st : List Value) (w : zH) (hr : zcat st ≤ 8) : zrun none (92, 84, ls, (.int x0 :: .ref a :: st), w) = zgd (zis w a 11) (zcl (zrun none (114, 0, [.ref a, .int x0], [], w)) (fun r => zrun none (92, 87, ls, r.1.toList ++ st, r.2))) := by
  refine (zE_ (i := .invokevirtual 114) (by decide +kernel) _ _ _).trans ?_
  show zres (zinv none 114 92 84 ls (.int x0 :: .ref a :: st) w) = _
  unfold zinv
  show zres (if zrc none 114 w (.ref a) = true then zcall 114 [.ref a, .int x0] st 92 84 ls w else none) = _
  by_cases hc : zis w a 11
  · rw [if_pos (zrc_is hc (by decide +kernel)), zgd_pos hc]
    exact zq_call hr (Nat.le_of_ble_eq_true rfl) rfl rfl
  · rw [zgd_neg hc, if_neg (fun q => hc (zrc_of q (by decide +kernel)))]
    rfl
theorem e92_87 (ls : List Value) (x : Int32) (w : zH) : zrun none (92, 87, ls, [.int x], w) = some (some (.int x), w) := by
  refine (zE_ (i := .ireturn) (by decide +kernel) _ _ _).trans ?_
  show zres (if narrow .int (.int x) = .int x then _ else none) = _
  rw [if_pos (show narrow .int (.int x) = .int x from rfl)]
  rfl
theorem e92_88 (v0 v1 v2 v3 v4 v5 v7 : Value) (x : Nat) (st : List Value) (w : zH) : zrun none (92, 88, [v0, v1, v2, v3, v4, v5, .ref x, v7], st, w) = zrun none (92, 90, [v0, v1, v2, v3, v4, v5, .ref x, v7], (.ref x :: st), w) := (zE_ (i := .aload 6) (by decide +kernel) _ _ _).trans rfl
theorem e92_88n (v0 v1 v2 v3 v4 v5 v7 : Value) (st : List Value) (w : zH) : zrun none (92, 88, [v0, v1, v2, v3, v4, v5, .null, v7], st, w) = zrun none (92, 90, [v0, v1, v2, v3, v4, v5, .null, v7], (.null :: st), w) := (zE_ (i := .aload 6) (by decide +kernel) _ _ _).trans rfl
theorem e92_90 (ls : List Value) (a : Nat) (st : List Value) (w : zH) (hr : zcat st ≤ 8) : zrun none (92, 90, ls, (.ref a :: st), w) = zgd (zis w a 8) (zcl (zrun none (42, 0, [.ref a, zJ], [], w)) (fun r => zrun none (92, 93, ls, r.1.toList ++ st, r.2))) := by
  refine (zE_ (i := .invokevirtual 42) (by decide +kernel) _ _ _).trans ?_
  show zres (zinv none 42 92 90 ls (.ref a :: st) w) = _
  unfold zinv
  show zres (if zrc none 42 w (.ref a) = true then zcall 42 [.ref a] st 92 90 ls w else none) = _
  by_cases hc : zis w a 8
  · rw [if_pos (zrc_is hc (by decide +kernel)), zgd_pos hc]
    exact zq_call hr (Nat.le_of_ble_eq_true rfl) rfl rfl
  · rw [zgd_neg hc, if_neg (fun q => hc (zrc_of q (by decide +kernel)))]
    rfl
theorem e92_93 (ls : List Value) (a : Int32) (st : List Value) (w : zH) : zrun none (92, 93, ls, (.int a :: st), w) = if a = 0 then zrun none (92, 96, ls, st, w) else zrun none (92, 99, ls, st, w) := (zE_ (i := .ifCond .ne 6) (by decide +kernel) _ _ _).trans (zq_if_ne rfl rfl)
theorem e92_96 (ls st : List Value) (w : zH) : zrun none (92, 96, ls, st, w) = zrun none (92, 98, ls, (.int (-1000001) :: st), w) := (zE_ (i := .bipush (-1000001)) (by decide +kernel) _ _ _).trans rfl
theorem e92_98 (ls : List Value) (x : Int32) (w : zH) : zrun none (92, 98, ls, [.int x], w) = some (some (.int x), w) := by
  refine (zE_ (i := .ireturn) (by decide +kernel) _ _ _).trans ?_
  show zres (if narrow .int (.int x) = .int x then _ else none) = _
  rw [if_pos (show narrow .int (.int x) = .int x from rfl)]
  rfl
theorem e92_99 (v1 v2 v3 v4 v5 v6 v7 : Value) (x : Nat) (st : List Value) (w : zH) : zrun none (92, 99, [.ref x, v1, v2, v3, v4, v5, v6, v7], st, w) = zrun none (92, 100, [.ref x, v1, v2, v3, v4, v5, v6, v7], (.ref x :: st), w) := (zE_ (i := .aload_n 0) (by decide +kernel) _ _ _).trans rfl
theorem e92_100 (v0 v1 v2 v3 v4 v5 v7 : Value) (x : Nat) (st : List Value) (w : zH) : zrun none (92, 100, [v0, v1, v2, v3, v4, v5, .ref x, v7], st, w) = zrun none (92, 102, [v0, v1, v2, v3, v4, v5, .ref x, v7], (.ref x :: st), w) := (zE_ (i := .aload 6) (by decide +kernel) _ _ _).trans rfl
theorem e92_100n (v0 v1 v2 v3 v4 v5 v7 : Value) (st : List Value) (w : zH) : zrun none (92, 100, [v0, v1, v2, v3, v4, v5, .null, v7], st, w) = zrun none (92, 102, [v0, v1, v2, v3, v4, v5, .null, v7], (.null :: st), w) := (zE_ (i := .aload 6) (by decide +kernel) _ _ _).trans rfl
theorem e92_102 (v0 v1 v3 v4 v5 v6 v7 : Value) (x : Int32) (st : List Value) (w : zH) : zrun none (92, 102, [v0, v1, .int x, v3, v4, v5, v6, v7], st, w) = zrun none (92, 103, [v0, v1, .int x, v3, v4, v5, v6, v7], (.int x :: st), w) := (zE_ (i := .iload_n 2) (by decide +kernel) _ _ _).trans rfl
theorem e92_103 (v0 v1 v2 v4 v5 v6 v7 : Value) (x : Int32) (st : List Value) (w : zH) : zrun none (92, 103, [v0, v1, v2, .int x, v4, v5, v6, v7], st, w) = zrun none (92, 104, [v0, v1, v2, .int x, v4, v5, v6, v7], (.int x :: st), w) := (zE_ (i := .iload_n 3) (by decide +kernel) _ _ _).trans rfl
theorem e92_104 (v0 v1 v2 v3 v5 v6 v7 : Value) (x : Int32) (st : List Value) (w : zH) : zrun none (92, 104, [v0, v1, v2, v3, .int x, v5, v6, v7], st, w) = zrun none (92, 106, [v0, v1, v2, v3, .int x, v5, v6, v7], (.int x :: st), w) := (zE_ (i := .iload 4) (by decide +kernel) _ _ _).trans rfl
theorem e92_106 (v0 v1 v2 v3 v4 v6 v7 : Value) (x : Int32) (st : List Value) (w : zH) : zrun none (92, 106, [v0, v1, v2, v3, v4, .int x, v6, v7], st, w) = zrun none (92, 108, [v0, v1, v2, v3, v4, .int x, v6, v7], (.int x :: st), w) := (zE_ (i := .iload 5) (by decide +kernel) _ _ _).trans rfl
theorem e92_108 (ls : List Value) (x0 : Nat) (x1 : Int32) (x2 : Int32) (x3 : Int32) (x4 : Int32) (st : List Value) (w : zH) (hr : zcat st ≤ 8) : zrun none (92, 108, ls, (.int x4 :: .int x3 :: .int x2 :: .int x1 :: .ref x0 :: st), w) = zcl (zrun none (133, 0, [.ref x0, .int x1, .int x2, .int x3, .int x4, zJ, zJ, zJ, zJ, zJ, zJ], [], w)) (fun r => zrun none (92, 111, ls, r.1.toList ++ st, r.2)) := by
  refine (zE_ (i := .invokestatic 133) (by decide +kernel) _ _ _).trans ?_
  show zres (if (99 : Nat) = 99 ∧ 5 ≤ ((.int x4 :: .int x3 :: .int x2 :: .int x1 :: .ref x0 :: st) : List Value).length then zcall 133 [.ref x0, .int x1, .int x2, .int x3, .int x4] st 92 108 ls w else none) = _
  rw [if_pos ⟨rfl, by simp⟩]
  exact zq_call hr (Nat.le_of_ble_eq_true rfl) rfl rfl
theorem e92_111 (ls : List Value) (x0 : Int32) (st : List Value) (w : zH) (hr : zcat st ≤ 8) : zrun none (92, 111, ls, (.int x0 :: st), w) = zcl (zrun none (108, 0, [.int x0], [], w)) (fun r => zrun none (92, 114, ls, r.1.toList ++ st, r.2)) := by
  refine (zE_ (i := .invokestatic 108) (by decide +kernel) _ _ _).trans ?_
  show zres (if (99 : Nat) = 99 ∧ 1 ≤ ((.int x0 :: st) : List Value).length then zcall 108 [.int x0] st 92 111 ls w else none) = _
  rw [if_pos ⟨rfl, by simp⟩]
  exact zq_call hr (Nat.le_of_ble_eq_true rfl) rfl rfl
theorem e92_114 (ls : List Value) (a : Nat) (x0 : Int32) (st : List Value) (w : zH) (hr : zcat st ≤ 8) : zrun none (92, 114, ls, (.int x0 :: .ref a :: st), w) = zgd (zis w a 11) (zcl (zrun none (115, 0, [.ref a, .int x0], [], w)) (fun r => zrun none (92, 117, ls, r.1.toList ++ st, r.2))) := by
  refine (zE_ (i := .invokevirtual 115) (by decide +kernel) _ _ _).trans ?_
  show zres (zinv none 115 92 114 ls (.int x0 :: .ref a :: st) w) = _
  unfold zinv
  show zres (if zrc none 115 w (.ref a) = true then zcall 115 [.ref a, .int x0] st 92 114 ls w else none) = _
  by_cases hc : zis w a 11
  · rw [if_pos (zrc_is hc (by decide +kernel)), zgd_pos hc]
    exact zq_call hr (Nat.le_of_ble_eq_true rfl) rfl rfl
  · rw [zgd_neg hc, if_neg (fun q => hc (zrc_of q (by decide +kernel)))]
    rfl
theorem e92_117 (ls : List Value) (x : Int32) (w : zH) : zrun none (92, 117, ls, [.int x], w) = some (some (.int x), w) := by
  refine (zE_ (i := .ireturn) (by decide +kernel) _ _ _).trans ?_
  show zres (if narrow .int (.int x) = .int x then _ else none) = _
  rw [if_pos (show narrow .int (.int x) = .int x from rfl)]
  rfl
theorem e93_0 (v0 v2 : Value) (x : Int32) (st : List Value) (w : zH) : zrun none (93, 0, [v0, .int x, v2], st, w) = zrun none (93, 1, [v0, .int x, v2], (.int x :: st), w) := (zE_ (i := .iload_n 1) (by decide +kernel) _ _ _).trans rfl
theorem e93_1 (ls : List Value) (x0 : Int32) (st : List Value) (w : zH) (hr : zcat st ≤ 8) : zrun none (93, 1, ls, (.int x0 :: st), w) = zcl (zrun none (101, 0, [.int x0], [], w)) (fun r => zrun none (93, 4, ls, r.1.toList ++ st, r.2)) := by
  refine (zE_ (i := .invokestatic 101) (by decide +kernel) _ _ _).trans ?_
  show zres (if (99 : Nat) = 99 ∧ 1 ≤ ((.int x0 :: st) : List Value).length then zcall 101 [.int x0] st 93 1 ls w else none) = _
  rw [if_pos ⟨rfl, by simp⟩]
  exact zq_call hr (Nat.le_of_ble_eq_true rfl) rfl rfl
theorem e93_4 (ls : List Value) (a : Int32) (st : List Value) (w : zH) : zrun none (93, 4, ls, (.int a :: st), w) = if a = 0 then zrun none (93, 7, ls, st, w) else zrun none (93, 10, ls, st, w) := (zE_ (i := .ifCond .ne 6) (by decide +kernel) _ _ _).trans (zq_if_ne rfl rfl)
theorem e93_7 (ls st : List Value) (w : zH) : zrun none (93, 7, ls, st, w) = zrun none (93, 9, ls, (.int (-1000001) :: st), w) := (zE_ (i := .bipush (-1000001)) (by decide +kernel) _ _ _).trans rfl
theorem e93_9 (ls : List Value) (x : Int32) (w : zH) : zrun none (93, 9, ls, [.int x], w) = some (some (.int x), w) := by
  refine (zE_ (i := .ireturn) (by decide +kernel) _ _ _).trans ?_
  show zres (if narrow .int (.int x) = .int x then _ else none) = _
  rw [if_pos (show narrow .int (.int x) = .int x from rfl)]
  rfl
theorem e93_10 (v1 v2 : Value) (x : Nat) (st : List Value) (w : zH) : zrun none (93, 10, [.ref x, v1, v2], st, w) = zrun none (93, 11, [.ref x, v1, v2], (.ref x :: st), w) := (zE_ (i := .aload_n 0) (by decide +kernel) _ _ _).trans rfl
theorem e93_11 (ls : List Value) (a : Nat) (st : List Value) (w : zH) : zrun none (93, 11, ls, (.ref a :: st), w) = zo (zf w a 1116) (fun x => zrun none (93, 14, ls, (x :: st), w)) := (zE_ (i := .getfield 1116) (by decide +kernel) _ _ _).trans zq_getf
theorem e93_14 (v0 v1 v2 : Value) (x : Int32) (st : List Value) (w : zH) (h : v1.category = 1) : zrun none (93, 14, [v0, v1, v2], (.int x :: st), w) = zrun none (93, 15, [v0, v1, .int x], st, w) := by
  refine (zE_ (i := .istore_n 2) (by decide +kernel) _ _ _).trans ?_
  have hz : zfree [v0, v1, v2] 2 = true := by show decide (v1.category = 1) = true; exact decide_eq_true h
  show zres (zst zint 2 1 93 14 [v0, v1, v2] (.int x :: st) w) = _
  unfold zst
  dsimp only
  rw [if_pos ⟨rfl, Nat.le_of_ble_eq_true rfl, hz⟩]
  rfl
theorem e93_15 (v1 v2 : Value) (x : Nat) (st : List Value) (w : zH) : zrun none (93, 15, [.ref x, v1, v2], st, w) = zrun none (93, 16, [.ref x, v1, v2], (.ref x :: st), w) := (zE_ (i := .aload_n 0) (by decide +kernel) _ _ _).trans rfl
theorem e93_16 (v0 v2 : Value) (x : Int32) (st : List Value) (w : zH) : zrun none (93, 16, [v0, .int x, v2], st, w) = zrun none (93, 17, [v0, .int x, v2], (.int x :: st), w) := (zE_ (i := .iload_n 1) (by decide +kernel) _ _ _).trans rfl
theorem e93_17 (ls : List Value) (x : Int32) (a : Nat) (st : List Value) (w : zH) : zrun none (93, 17, ls, (.int x :: .ref a :: st), w) = zgd (a < zX ∧ (zf w a 1116).isSome = true) (zrun none (93, 20, ls, st, zpf w a 1116 (.int x))) := by
  refine (zE_ (i := .putfield 1116) (by decide +kernel) _ _ _).trans ?_
  by_cases hg : a < zX ∧ (zf w a 1116).isSome = true
  · rw [zgd_pos hg]
    obtain ⟨ha, h⟩ := hg
    exact zq_putf ha h rfl rfl
  · rw [zgd_neg hg]
    exact zq_putf_no (fun h1 h2 h3 => hg ⟨h1, h2⟩)
theorem e93_20 (v0 v1 : Value) (x : Int32) (st : List Value) (w : zH) : zrun none (93, 20, [v0, v1, .int x], st, w) = zrun none (93, 21, [v0, v1, .int x], (.int x :: st), w) := (zE_ (i := .iload_n 2) (by decide +kernel) _ _ _).trans rfl
theorem e93_21 (ls : List Value) (x : Int32) (w : zH) : zrun none (93, 21, ls, [.int x], w) = some (some (.int x), w) := by
  refine (zE_ (i := .ireturn) (by decide +kernel) _ _ _).trans ?_
  show zres (if narrow .int (.int x) = .int x then _ else none) = _
  rw [if_pos (show narrow .int (.int x) = .int x from rfl)]
  rfl
theorem e94_0 (v1 v2 : Value) (x : Nat) (st : List Value) (w : zH) : zrun none (94, 0, [.ref x, v1, v2], st, w) = zrun none (94, 1, [.ref x, v1, v2], (.ref x :: st), w) := (zE_ (i := .aload_n 0) (by decide +kernel) _ _ _).trans rfl
theorem e94_1 (v0 v2 : Value) (x : Int32) (st : List Value) (w : zH) : zrun none (94, 1, [v0, .int x, v2], st, w) = zrun none (94, 2, [v0, .int x, v2], (.int x :: st), w) := (zE_ (i := .iload_n 1) (by decide +kernel) _ _ _).trans rfl
theorem e94_2 (ls : List Value) (a : Nat) (x0 : Int32) (st : List Value) (w : zH) (hr : zcat st ≤ 8) : zrun none (94, 2, ls, (.int x0 :: .ref a :: st), w) = zgd (zis w a 11) (zcl (zrun none (111, 0, [.ref a, .int x0], [], w)) (fun r => zrun none (94, 5, ls, r.1.toList ++ st, r.2))) := by
  refine (zE_ (i := .invokevirtual 111) (by decide +kernel) _ _ _).trans ?_
  show zres (zinv none 111 94 2 ls (.int x0 :: .ref a :: st) w) = _
  unfold zinv
  show zres (if zrc none 111 w (.ref a) = true then zcall 111 [.ref a, .int x0] st 94 2 ls w else none) = _
  by_cases hc : zis w a 11
  · rw [if_pos (zrc_is hc (by decide +kernel)), zgd_pos hc]
    exact zq_call hr (Nat.le_of_ble_eq_true rfl) rfl rfl
  · rw [zgd_neg hc, if_neg (fun q => hc (zrc_of q (by decide +kernel)))]
    rfl
theorem e94_5 (v0 v1 v2 : Value) (x : Nat) (st : List Value) (w : zH) (h : v1.category = 1) : zrun none (94, 5, [v0, v1, v2], (.ref x :: st), w) = zrun none (94, 6, [v0, v1, .ref x], st, w) := by
  refine (zE_ (i := .astore_n 2) (by decide +kernel) _ _ _).trans ?_
  have hz : zfree [v0, v1, v2] 2 = true := by show decide (v1.category = 1) = true; exact decide_eq_true h
  show zres (zst zref 2 1 94 5 [v0, v1, v2] (.ref x :: st) w) = _
  unfold zst
  dsimp only
  rw [if_pos ⟨rfl, Nat.le_of_ble_eq_true rfl, hz⟩]
  rfl
theorem e94_5n (v0 v1 v2 : Value) (st : List Value) (w : zH) (h : v1.category = 1) : zrun none (94, 5, [v0, v1, v2], (.null :: st), w) = zrun none (94, 6, [v0, v1, .null], st, w) := by
  refine (zE_ (i := .astore_n 2) (by decide +kernel) _ _ _).trans ?_
  have hz : zfree [v0, v1, v2] 2 = true := by show decide (v1.category = 1) = true; exact decide_eq_true h
  show zres (zst zref 2 1 94 5 [v0, v1, v2] (.null :: st) w) = _
  unfold zst
  dsimp only
  rw [if_pos ⟨rfl, Nat.le_of_ble_eq_true rfl, hz⟩]
  rfl
theorem e94_6 (v0 v1 : Value) (x : Nat) (st : List Value) (w : zH) : zrun none (94, 6, [v0, v1, .ref x], st, w) = zrun none (94, 7, [v0, v1, .ref x], (.ref x :: st), w) := (zE_ (i := .aload_n 2) (by decide +kernel) _ _ _).trans rfl
theorem e94_6n (v0 v1 : Value) (st : List Value) (w : zH) : zrun none (94, 6, [v0, v1, .null], st, w) = zrun none (94, 7, [v0, v1, .null], (.null :: st), w) := (zE_ (i := .aload_n 2) (by decide +kernel) _ _ _).trans rfl
theorem e94_7n (ls st : List Value) (w : zH) : zrun none (94, 7, ls, (.null :: st), w) = zrun none (94, 10, ls, st, w) := (zE_ (i := .ifnonnull 8) (by decide +kernel) _ _ _).trans rfl
theorem e94_7 (ls : List Value) (a : Nat) (st : List Value) (w : zH) (h : a < zX) : zrun none (94, 7, ls, (.ref a :: st), w) = zrun none (94, 15, ls, st, w) := by
  refine (zE_ (i := .ifnonnull 8) (by decide +kernel) _ _ _).trans ?_
  simp only [zI, if_pos h]
  rfl
theorem e94_10 (ls st : List Value) (w : zH) : zrun none (94, 10, ls, st, w) = zrun none (94, 12, ls, (.int (-1000001) :: st), w) := (zE_ (i := .bipush (-1000001)) (by decide +kernel) _ _ _).trans rfl
theorem e94_12 (ls st : List Value) (w : zH) : zrun none (94, 12, ls, st, w) = zrun none (94, 24, ls, st, w) := (zE_ (i := .goto 12) (by decide +kernel) _ _ _).trans rfl
theorem e94_15 (v1 v2 : Value) (x : Nat) (st : List Value) (w : zH) : zrun none (94, 15, [.ref x, v1, v2], st, w) = zrun none (94, 16, [.ref x, v1, v2], (.ref x :: st), w) := (zE_ (i := .aload_n 0) (by decide +kernel) _ _ _).trans rfl
theorem e94_16 (v0 v1 : Value) (x : Nat) (st : List Value) (w : zH) : zrun none (94, 16, [v0, v1, .ref x], st, w) = zrun none (94, 17, [v0, v1, .ref x], (.ref x :: st), w) := (zE_ (i := .aload_n 2) (by decide +kernel) _ _ _).trans rfl
theorem e94_16n (v0 v1 : Value) (st : List Value) (w : zH) : zrun none (94, 16, [v0, v1, .null], st, w) = zrun none (94, 17, [v0, v1, .null], (.null :: st), w) := (zE_ (i := .aload_n 2) (by decide +kernel) _ _ _).trans rfl
theorem e94_17 (v1 v2 : Value) (x : Nat) (st : List Value) (w : zH) : zrun none (94, 17, [.ref x, v1, v2], st, w) = zrun none (94, 18, [.ref x, v1, v2], (.ref x :: st), w) := (zE_ (i := .aload_n 0) (by decide +kernel) _ _ _).trans rfl
theorem e94_18 (ls : List Value) (a : Nat) (st : List Value) (w : zH) : zrun none (94, 18, ls, (.ref a :: st), w) = zo (zf w a 1116) (fun x => zrun none (94, 21, ls, (x :: st), w)) := (zE_ (i := .getfield 1116) (by decide +kernel) _ _ _).trans zq_getf
theorem e94_21 (ls : List Value) (a : Nat) (x0 : Nat) (x1 : Int32) (st : List Value) (w : zH) (hr : zcat st ≤ 8) : zrun none (94, 21, ls, (.int x1 :: .ref x0 :: .ref a :: st), w) = zgd (zis w a 11) (zcl (zrun none (117, 0, [.ref a, .ref x0, .int x1, zJ, zJ], [], w)) (fun r => zrun none (94, 24, ls, r.1.toList ++ st, r.2))) := by
  refine (zE_ (i := .invokevirtual 117) (by decide +kernel) _ _ _).trans ?_
  show zres (zinv none 117 94 21 ls (.int x1 :: .ref x0 :: .ref a :: st) w) = _
  unfold zinv
  show zres (if zrc none 117 w (.ref a) = true then zcall 117 [.ref a, .ref x0, .int x1] st 94 21 ls w else none) = _
  by_cases hc : zis w a 11
  · rw [if_pos (zrc_is hc (by decide +kernel)), zgd_pos hc]
    exact zq_call hr (Nat.le_of_ble_eq_true rfl) rfl rfl
  · rw [zgd_neg hc, if_neg (fun q => hc (zrc_of q (by decide +kernel)))]
    rfl
theorem e94_24 (ls : List Value) (x : Int32) (w : zH) : zrun none (94, 24, ls, [.int x], w) = some (some (.int x), w) := by
  refine (zE_ (i := .ireturn) (by decide +kernel) _ _ _).trans ?_
  show zres (if narrow .int (.int x) = .int x then _ else none) = _
  rw [if_pos (show narrow .int (.int x) = .int x from rfl)]
  rfl
theorem e95_0 (v1 v2 v3 : Value) (x : Nat) (st : List Value) (w : zH) : zrun none (95, 0, [.ref x, v1, v2, v3], st, w) = zrun none (95, 1, [.ref x, v1, v2, v3], (.ref x :: st), w) := (zE_ (i := .aload_n 0) (by decide +kernel) _ _ _).trans rfl
theorem e95_1 (v0 v2 v3 : Value) (x : Int32) (st : List Value) (w : zH) : zrun none (95, 1, [v0, .int x, v2, v3], st, w) = zrun none (95, 2, [v0, .int x, v2, v3], (.int x :: st), w) := (zE_ (i := .iload_n 1) (by decide +kernel) _ _ _).trans rfl
theorem e95_2 (ls : List Value) (a : Nat) (x0 : Int32) (st : List Value) (w : zH) (hr : zcat st ≤ 8) : zrun none (95, 2, ls, (.int x0 :: .ref a :: st), w) = zgd (zis w a 11) (zcl (zrun none (111, 0, [.ref a, .int x0], [], w)) (fun r => zrun none (95, 5, ls, r.1.toList ++ st, r.2))) := by
  refine (zE_ (i := .invokevirtual 111) (by decide +kernel) _ _ _).trans ?_
  show zres (zinv none 111 95 2 ls (.int x0 :: .ref a :: st) w) = _
  unfold zinv
  show zres (if zrc none 111 w (.ref a) = true then zcall 111 [.ref a, .int x0] st 95 2 ls w else none) = _
  by_cases hc : zis w a 11
  · rw [if_pos (zrc_is hc (by decide +kernel)), zgd_pos hc]
    exact zq_call hr (Nat.le_of_ble_eq_true rfl) rfl rfl
  · rw [zgd_neg hc, if_neg (fun q => hc (zrc_of q (by decide +kernel)))]
    rfl
theorem e95_5 (v0 v1 v2 v3 : Value) (x : Nat) (st : List Value) (w : zH) (h : v2.category = 1) : zrun none (95, 5, [v0, v1, v2, v3], (.ref x :: st), w) = zrun none (95, 6, [v0, v1, v2, .ref x], st, w) := by
  refine (zE_ (i := .astore_n 3) (by decide +kernel) _ _ _).trans ?_
  have hz : zfree [v0, v1, v2, v3] 3 = true := by show decide (v2.category = 1) = true; exact decide_eq_true h
  show zres (zst zref 3 1 95 5 [v0, v1, v2, v3] (.ref x :: st) w) = _
  unfold zst
  dsimp only
  rw [if_pos ⟨rfl, Nat.le_of_ble_eq_true rfl, hz⟩]
  rfl
theorem e95_5n (v0 v1 v2 v3 : Value) (st : List Value) (w : zH) (h : v2.category = 1) : zrun none (95, 5, [v0, v1, v2, v3], (.null :: st), w) = zrun none (95, 6, [v0, v1, v2, .null], st, w) := by
  refine (zE_ (i := .astore_n 3) (by decide +kernel) _ _ _).trans ?_
  have hz : zfree [v0, v1, v2, v3] 3 = true := by show decide (v2.category = 1) = true; exact decide_eq_true h
  show zres (zst zref 3 1 95 5 [v0, v1, v2, v3] (.null :: st) w) = _
  unfold zst
  dsimp only
  rw [if_pos ⟨rfl, Nat.le_of_ble_eq_true rfl, hz⟩]
  rfl
theorem e95_6 (v0 v1 v2 : Value) (x : Nat) (st : List Value) (w : zH) : zrun none (95, 6, [v0, v1, v2, .ref x], st, w) = zrun none (95, 7, [v0, v1, v2, .ref x], (.ref x :: st), w) := (zE_ (i := .aload_n 3) (by decide +kernel) _ _ _).trans rfl
theorem e95_6n (v0 v1 v2 : Value) (st : List Value) (w : zH) : zrun none (95, 6, [v0, v1, v2, .null], st, w) = zrun none (95, 7, [v0, v1, v2, .null], (.null :: st), w) := (zE_ (i := .aload_n 3) (by decide +kernel) _ _ _).trans rfl
theorem e95_7n (ls st : List Value) (w : zH) : zrun none (95, 7, ls, (.null :: st), w) = zrun none (95, 19, ls, st, w) := (zE_ (i := .ifnull 12) (by decide +kernel) _ _ _).trans rfl
theorem e95_7 (ls : List Value) (a : Nat) (st : List Value) (w : zH) (h : a < zX) : zrun none (95, 7, ls, (.ref a :: st), w) = zrun none (95, 10, ls, st, w) := by
  refine (zE_ (i := .ifnull 12) (by decide +kernel) _ _ _).trans ?_
  simp only [zI, if_pos h]
  rfl
theorem e95_10 (v0 v1 v3 : Value) (x : Int32) (st : List Value) (w : zH) : zrun none (95, 10, [v0, v1, .int x, v3], st, w) = zrun none (95, 11, [v0, v1, .int x, v3], (.int x :: st), w) := (zE_ (i := .iload_n 2) (by decide +kernel) _ _ _).trans rfl
theorem e95_11 (ls st : List Value) (w : zH) : zrun none (95, 11, ls, st, w) = zrun none (95, 12, ls, (.int 0 :: st), w) := (zE_ (i := .iconst 0) (by decide +kernel) _ _ _).trans rfl
theorem e95_12 (ls st : List Value) (w : zH) : zrun none (95, 12, ls, st, w) = zrun none (95, 13, ls, (.int 3 :: st), w) := (zE_ (i := .iconst 3) (by decide +kernel) _ _ _).trans rfl
theorem e95_13 (ls : List Value) (x0 : Int32) (x1 : Int32) (x2 : Int32) (st : List Value) (w : zH) (hr : zcat st ≤ 8) : zrun none (95, 13, ls, (.int x2 :: .int x1 :: .int x0 :: st), w) = zcl (zrun none (100, 0, [.int x0, .int x1, .int x2], [], w)) (fun r => zrun none (95, 16, ls, r.1.toList ++ st, r.2)) := by
  refine (zE_ (i := .invokestatic 100) (by decide +kernel) _ _ _).trans ?_
  show zres (if (99 : Nat) = 99 ∧ 3 ≤ ((.int x2 :: .int x1 :: .int x0 :: st) : List Value).length then zcall 100 [.int x0, .int x1, .int x2] st 95 13 ls w else none) = _
  rw [if_pos ⟨rfl, by simp⟩]
  exact zq_call hr (Nat.le_of_ble_eq_true rfl) rfl rfl
theorem e95_16 (ls : List Value) (a : Int32) (st : List Value) (w : zH) : zrun none (95, 16, ls, (.int a :: st), w) = if a = 0 then zrun none (95, 19, ls, st, w) else zrun none (95, 22, ls, st, w) := (zE_ (i := .ifCond .ne 6) (by decide +kernel) _ _ _).trans (zq_if_ne rfl rfl)
theorem e95_19 (ls st : List Value) (w : zH) : zrun none (95, 19, ls, st, w) = zrun none (95, 21, ls, (.int (-1000001) :: st), w) := (zE_ (i := .bipush (-1000001)) (by decide +kernel) _ _ _).trans rfl
theorem e95_21 (ls : List Value) (x : Int32) (w : zH) : zrun none (95, 21, ls, [.int x], w) = some (some (.int x), w) := by
  refine (zE_ (i := .ireturn) (by decide +kernel) _ _ _).trans ?_
  show zres (if narrow .int (.int x) = .int x then _ else none) = _
  rw [if_pos (show narrow .int (.int x) = .int x from rfl)]
  rfl
theorem e95_22 (v1 v2 v3 : Value) (x : Nat) (st : List Value) (w : zH) : zrun none (95, 22, [.ref x, v1, v2, v3], st, w) = zrun none (95, 23, [.ref x, v1, v2, v3], (.ref x :: st), w) := (zE_ (i := .aload_n 0) (by decide +kernel) _ _ _).trans rfl
theorem e95_23 (v0 v1 v2 : Value) (x : Nat) (st : List Value) (w : zH) : zrun none (95, 23, [v0, v1, v2, .ref x], st, w) = zrun none (95, 24, [v0, v1, v2, .ref x], (.ref x :: st), w) := (zE_ (i := .aload_n 3) (by decide +kernel) _ _ _).trans rfl
theorem e95_23n (v0 v1 v2 : Value) (st : List Value) (w : zH) : zrun none (95, 23, [v0, v1, v2, .null], st, w) = zrun none (95, 24, [v0, v1, v2, .null], (.null :: st), w) := (zE_ (i := .aload_n 3) (by decide +kernel) _ _ _).trans rfl
theorem e95_24 (v1 v2 v3 : Value) (x : Nat) (st : List Value) (w : zH) : zrun none (95, 24, [.ref x, v1, v2, v3], st, w) = zrun none (95, 25, [.ref x, v1, v2, v3], (.ref x :: st), w) := (zE_ (i := .aload_n 0) (by decide +kernel) _ _ _).trans rfl
theorem e95_25 (ls : List Value) (a : Nat) (st : List Value) (w : zH) : zrun none (95, 25, ls, (.ref a :: st), w) = zo (zf w a 1116) (fun x => zrun none (95, 28, ls, (x :: st), w)) := (zE_ (i := .getfield 1116) (by decide +kernel) _ _ _).trans zq_getf
theorem e95_28 (ls : List Value) (a : Nat) (x0 : Nat) (x1 : Int32) (st : List Value) (w : zH) (hr : zcat st ≤ 8) : zrun none (95, 28, ls, (.int x1 :: .ref x0 :: .ref a :: st), w) = zgd (zis w a 11) (zcl (zrun none (117, 0, [.ref a, .ref x0, .int x1, zJ, zJ], [], w)) (fun r => zrun none (95, 31, ls, r.1.toList ++ st, r.2))) := by
  refine (zE_ (i := .invokevirtual 117) (by decide +kernel) _ _ _).trans ?_
  show zres (zinv none 117 95 28 ls (.int x1 :: .ref x0 :: .ref a :: st) w) = _
  unfold zinv
  show zres (if zrc none 117 w (.ref a) = true then zcall 117 [.ref a, .ref x0, .int x1] st 95 28 ls w else none) = _
  by_cases hc : zis w a 11
  · rw [if_pos (zrc_is hc (by decide +kernel)), zgd_pos hc]
    exact zq_call hr (Nat.le_of_ble_eq_true rfl) rfl rfl
  · rw [zgd_neg hc, if_neg (fun q => hc (zrc_of q (by decide +kernel)))]
    rfl
theorem e95_31 (v0 v1 v3 : Value) (x : Int32) (st : List Value) (w : zH) : zrun none (95, 31, [v0, v1, .int x, v3], st, w) = zrun none (95, 32, [v0, v1, .int x, v3], (.int x :: st), w) := (zE_ (i := .iload_n 2) (by decide +kernel) _ _ _).trans rfl
theorem e95_32 (ls : List Value) (x0 : Int32) (x1 : Int32) (st : List Value) (w : zH) (hr : zcat st ≤ 8) : zrun none (95, 32, ls, (.int x1 :: .int x0 :: st), w) = zcl (zrun none (118, 0, [.int x0, .int x1], [], w)) (fun r => zrun none (95, 35, ls, r.1.toList ++ st, r.2)) := by
  refine (zE_ (i := .invokestatic 118) (by decide +kernel) _ _ _).trans ?_
  show zres (if (99 : Nat) = 99 ∧ 2 ≤ ((.int x1 :: .int x0 :: st) : List Value).length then zcall 118 [.int x0, .int x1] st 95 32 ls w else none) = _
  rw [if_pos ⟨rfl, by simp⟩]
  exact zq_call hr (Nat.le_of_ble_eq_true rfl) rfl rfl
theorem e95_35 (ls : List Value) (a : Int32) (st : List Value) (w : zH) : zrun none (95, 35, ls, (.int a :: st), w) = if a = 0 then zrun none (95, 38, ls, st, w) else zrun none (95, 44, ls, st, w) := (zE_ (i := .ifCond .ne 9) (by decide +kernel) _ _ _).trans (zq_if_ne rfl rfl)
theorem e95_38 (v1 v2 v3 : Value) (x : Nat) (st : List Value) (w : zH) : zrun none (95, 38, [.ref x, v1, v2, v3], st, w) = zrun none (95, 39, [.ref x, v1, v2, v3], (.ref x :: st), w) := (zE_ (i := .aload_n 0) (by decide +kernel) _ _ _).trans rfl
theorem e95_39 (ls st : List Value) (w : zH) : zrun none (95, 39, ls, st, w) = zrun none (95, 40, ls, (.int 3 :: st), w) := (zE_ (i := .iconst 3) (by decide +kernel) _ _ _).trans rfl
theorem e95_40 (ls : List Value) (a : Nat) (x0 : Int32) (st : List Value) (w : zH) (hr : zcat st ≤ 8) : zrun none (95, 40, ls, (.int x0 :: .ref a :: st), w) = zgd (zis w a 11) (zcl (zrun none (114, 0, [.ref a, .int x0], [], w)) (fun r => zrun none (95, 43, ls, r.1.toList ++ st, r.2))) := by
  refine (zE_ (i := .invokevirtual 114) (by decide +kernel) _ _ _).trans ?_
  show zres (zinv none 114 95 40 ls (.int x0 :: .ref a :: st) w) = _
  unfold zinv
  show zres (if zrc none 114 w (.ref a) = true then zcall 114 [.ref a, .int x0] st 95 40 ls w else none) = _
  by_cases hc : zis w a 11
  · rw [if_pos (zrc_is hc (by decide +kernel)), zgd_pos hc]
    exact zq_call hr (Nat.le_of_ble_eq_true rfl) rfl rfl
  · rw [zgd_neg hc, if_neg (fun q => hc (zrc_of q (by decide +kernel)))]
    rfl
theorem e95_43 (ls : List Value) (x : Int32) (w : zH) : zrun none (95, 43, ls, [.int x], w) = some (some (.int x), w) := by
  refine (zE_ (i := .ireturn) (by decide +kernel) _ _ _).trans ?_
  show zres (if narrow .int (.int x) = .int x then _ else none) = _
  rw [if_pos (show narrow .int (.int x) = .int x from rfl)]
  rfl
theorem e95_44 (v1 v2 v3 : Value) (x : Nat) (st : List Value) (w : zH) : zrun none (95, 44, [.ref x, v1, v2, v3], st, w) = zrun none (95, 45, [.ref x, v1, v2, v3], (.ref x :: st), w) := (zE_ (i := .aload_n 0) (by decide +kernel) _ _ _).trans rfl
theorem e95_45 (v0 v1 v2 : Value) (x : Nat) (st : List Value) (w : zH) : zrun none (95, 45, [v0, v1, v2, .ref x], st, w) = zrun none (95, 46, [v0, v1, v2, .ref x], (.ref x :: st), w) := (zE_ (i := .aload_n 3) (by decide +kernel) _ _ _).trans rfl
theorem e95_45n (v0 v1 v2 : Value) (st : List Value) (w : zH) : zrun none (95, 45, [v0, v1, v2, .null], st, w) = zrun none (95, 46, [v0, v1, v2, .null], (.null :: st), w) := (zE_ (i := .aload_n 3) (by decide +kernel) _ _ _).trans rfl
theorem e95_46 (ls : List Value) (a : Nat) (st : List Value) (w : zH) : zrun none (95, 46, ls, (.ref a :: st), w) = zo (zf w a 702) (fun x => zrun none (95, 49, ls, (x :: st), w)) := (zE_ (i := .getfield 702) (by decide +kernel) _ _ _).trans zq_getf
theorem e95_49 (ls : List Value) (a : Nat) (x0 : Int32) (st : List Value) (w : zH) (hr : zcat st ≤ 8) : zrun none (95, 49, ls, (.int x0 :: .ref a :: st), w) = zgd (zis w a 11) (zcl (zrun none (115, 0, [.ref a, .int x0], [], w)) (fun r => zrun none (95, 52, ls, r.1.toList ++ st, r.2))) := by
  refine (zE_ (i := .invokevirtual 115) (by decide +kernel) _ _ _).trans ?_
  show zres (zinv none 115 95 49 ls (.int x0 :: .ref a :: st) w) = _
  unfold zinv
  show zres (if zrc none 115 w (.ref a) = true then zcall 115 [.ref a, .int x0] st 95 49 ls w else none) = _
  by_cases hc : zis w a 11
  · rw [if_pos (zrc_is hc (by decide +kernel)), zgd_pos hc]
    exact zq_call hr (Nat.le_of_ble_eq_true rfl) rfl rfl
  · rw [zgd_neg hc, if_neg (fun q => hc (zrc_of q (by decide +kernel)))]
    rfl
theorem e95_52 (ls : List Value) (x : Int32) (w : zH) : zrun none (95, 52, ls, [.int x], w) = some (some (.int x), w) := by
  refine (zE_ (i := .ireturn) (by decide +kernel) _ _ _).trans ?_
  show zres (if narrow .int (.int x) = .int x then _ else none) = _
  rw [if_pos (show narrow .int (.int x) = .int x from rfl)]
  rfl
theorem e96_0 (v1 v2 v3 : Value) (x : Nat) (st : List Value) (w : zH) : zrun none (96, 0, [.ref x, v1, v2, v3], st, w) = zrun none (96, 1, [.ref x, v1, v2, v3], (.ref x :: st), w) := (zE_ (i := .aload_n 0) (by decide +kernel) _ _ _).trans rfl
theorem e96_1 (v0 v2 v3 : Value) (x : Int32) (st : List Value) (w : zH) : zrun none (96, 1, [v0, .int x, v2, v3], st, w) = zrun none (96, 2, [v0, .int x, v2, v3], (.int x :: st), w) := (zE_ (i := .iload_n 1) (by decide +kernel) _ _ _).trans rfl
theorem e96_2 (ls : List Value) (a : Nat) (x0 : Int32) (st : List Value) (w : zH) (hr : zcat st ≤ 8) : zrun none (96, 2, ls, (.int x0 :: .ref a :: st), w) = zgd (zis w a 11) (zcl (zrun none (111, 0, [.ref a, .int x0], [], w)) (fun r => zrun none (96, 5, ls, r.1.toList ++ st, r.2))) := by
  refine (zE_ (i := .invokevirtual 111) (by decide +kernel) _ _ _).trans ?_
  show zres (zinv none 111 96 2 ls (.int x0 :: .ref a :: st) w) = _
  unfold zinv
  show zres (if zrc none 111 w (.ref a) = true then zcall 111 [.ref a, .int x0] st 96 2 ls w else none) = _
  by_cases hc : zis w a 11
  · rw [if_pos (zrc_is hc (by decide +kernel)), zgd_pos hc]
    exact zq_call hr (Nat.le_of_ble_eq_true rfl) rfl rfl
  · rw [zgd_neg hc, if_neg (fun q => hc (zrc_of q (by decide +kernel)))]
    rfl
theorem e96_5 (v0 v1 v2 v3 : Value) (x : Nat) (st : List Value) (w : zH) (h : v2.category = 1) : zrun none (96, 5, [v0, v1, v2, v3], (.ref x :: st), w) = zrun none (96, 6, [v0, v1, v2, .ref x], st, w) := by
  refine (zE_ (i := .astore_n 3) (by decide +kernel) _ _ _).trans ?_
  have hz : zfree [v0, v1, v2, v3] 3 = true := by show decide (v2.category = 1) = true; exact decide_eq_true h
  show zres (zst zref 3 1 96 5 [v0, v1, v2, v3] (.ref x :: st) w) = _
  unfold zst
  dsimp only
  rw [if_pos ⟨rfl, Nat.le_of_ble_eq_true rfl, hz⟩]
  rfl
theorem e96_5n (v0 v1 v2 v3 : Value) (st : List Value) (w : zH) (h : v2.category = 1) : zrun none (96, 5, [v0, v1, v2, v3], (.null :: st), w) = zrun none (96, 6, [v0, v1, v2, .null], st, w) := by
  refine (zE_ (i := .astore_n 3) (by decide +kernel) _ _ _).trans ?_
  have hz : zfree [v0, v1, v2, v3] 3 = true := by show decide (v2.category = 1) = true; exact decide_eq_true h
  show zres (zst zref 3 1 96 5 [v0, v1, v2, v3] (.null :: st) w) = _
  unfold zst
  dsimp only
  rw [if_pos ⟨rfl, Nat.le_of_ble_eq_true rfl, hz⟩]
  rfl
theorem e96_6 (v0 v1 v2 : Value) (x : Nat) (st : List Value) (w : zH) : zrun none (96, 6, [v0, v1, v2, .ref x], st, w) = zrun none (96, 7, [v0, v1, v2, .ref x], (.ref x :: st), w) := (zE_ (i := .aload_n 3) (by decide +kernel) _ _ _).trans rfl
theorem e96_6n (v0 v1 v2 : Value) (st : List Value) (w : zH) : zrun none (96, 6, [v0, v1, v2, .null], st, w) = zrun none (96, 7, [v0, v1, v2, .null], (.null :: st), w) := (zE_ (i := .aload_n 3) (by decide +kernel) _ _ _).trans rfl
theorem e96_7n (ls st : List Value) (w : zH) : zrun none (96, 7, ls, (.null :: st), w) = zrun none (96, 19, ls, st, w) := (zE_ (i := .ifnull 12) (by decide +kernel) _ _ _).trans rfl
theorem e96_7 (ls : List Value) (a : Nat) (st : List Value) (w : zH) (h : a < zX) : zrun none (96, 7, ls, (.ref a :: st), w) = zrun none (96, 10, ls, st, w) := by
  refine (zE_ (i := .ifnull 12) (by decide +kernel) _ _ _).trans ?_
  simp only [zI, if_pos h]
  rfl
theorem e96_10 (v0 v1 v3 : Value) (x : Int32) (st : List Value) (w : zH) : zrun none (96, 10, [v0, v1, .int x, v3], st, w) = zrun none (96, 11, [v0, v1, .int x, v3], (.int x :: st), w) := (zE_ (i := .iload_n 2) (by decide +kernel) _ _ _).trans rfl
theorem e96_11 (ls st : List Value) (w : zH) : zrun none (96, 11, ls, st, w) = zrun none (96, 12, ls, (.int 0 :: st), w) := (zE_ (i := .iconst 0) (by decide +kernel) _ _ _).trans rfl
theorem e96_12 (ls st : List Value) (w : zH) : zrun none (96, 12, ls, st, w) = zrun none (96, 13, ls, (.int 1 :: st), w) := (zE_ (i := .iconst 1) (by decide +kernel) _ _ _).trans rfl
theorem e96_13 (ls : List Value) (x0 : Int32) (x1 : Int32) (x2 : Int32) (st : List Value) (w : zH) (hr : zcat st ≤ 8) : zrun none (96, 13, ls, (.int x2 :: .int x1 :: .int x0 :: st), w) = zcl (zrun none (100, 0, [.int x0, .int x1, .int x2], [], w)) (fun r => zrun none (96, 16, ls, r.1.toList ++ st, r.2)) := by
  refine (zE_ (i := .invokestatic 100) (by decide +kernel) _ _ _).trans ?_
  show zres (if (99 : Nat) = 99 ∧ 3 ≤ ((.int x2 :: .int x1 :: .int x0 :: st) : List Value).length then zcall 100 [.int x0, .int x1, .int x2] st 96 13 ls w else none) = _
  rw [if_pos ⟨rfl, by simp⟩]
  exact zq_call hr (Nat.le_of_ble_eq_true rfl) rfl rfl
theorem e96_16 (ls : List Value) (a : Int32) (st : List Value) (w : zH) : zrun none (96, 16, ls, (.int a :: st), w) = if a = 0 then zrun none (96, 19, ls, st, w) else zrun none (96, 22, ls, st, w) := (zE_ (i := .ifCond .ne 6) (by decide +kernel) _ _ _).trans (zq_if_ne rfl rfl)
theorem e96_19 (ls st : List Value) (w : zH) : zrun none (96, 19, ls, st, w) = zrun none (96, 21, ls, (.int (-1000001) :: st), w) := (zE_ (i := .bipush (-1000001)) (by decide +kernel) _ _ _).trans rfl
theorem e96_21 (ls : List Value) (x : Int32) (w : zH) : zrun none (96, 21, ls, [.int x], w) = some (some (.int x), w) := by
  refine (zE_ (i := .ireturn) (by decide +kernel) _ _ _).trans ?_
  show zres (if narrow .int (.int x) = .int x then _ else none) = _
  rw [if_pos (show narrow .int (.int x) = .int x from rfl)]
  rfl
theorem e96_22 (v1 v2 v3 : Value) (x : Nat) (st : List Value) (w : zH) : zrun none (96, 22, [.ref x, v1, v2, v3], st, w) = zrun none (96, 23, [.ref x, v1, v2, v3], (.ref x :: st), w) := (zE_ (i := .aload_n 0) (by decide +kernel) _ _ _).trans rfl
theorem e96_23 (ls st : List Value) (w : zH) : zrun none (96, 23, ls, st, w) = zrun none (96, 24, ls, (.int 0 :: st), w) := (zE_ (i := .iconst 0) (by decide +kernel) _ _ _).trans rfl
theorem e96_24 (ls : List Value) (x : Int32) (a : Nat) (st : List Value) (w : zH) : zrun none (96, 24, ls, (.int x :: .ref a :: st), w) = zgd (a < zX ∧ (zf w a 1118).isSome = true) (zrun none (96, 27, ls, st, zpf w a 1118 (.int x))) := by
  refine (zE_ (i := .putfield 1118) (by decide +kernel) _ _ _).trans ?_
  by_cases hg : a < zX ∧ (zf w a 1118).isSome = true
  · rw [zgd_pos hg]
    obtain ⟨ha, h⟩ := hg
    exact zq_putf ha h rfl rfl
  · rw [zgd_neg hg]
    exact zq_putf_no (fun h1 h2 h3 => hg ⟨h1, h2⟩)
theorem e96_27 (v0 v1 v3 : Value) (x : Int32) (st : List Value) (w : zH) : zrun none (96, 27, [v0, v1, .int x, v3], st, w) = zrun none (96, 28, [v0, v1, .int x, v3], (.int x :: st), w) := (zE_ (i := .iload_n 2) (by decide +kernel) _ _ _).trans rfl
theorem e96_28 (ls : List Value) (a : Int32) (st : List Value) (w : zH) : zrun none (96, 28, ls, (.int a :: st), w) = if a = 0 then zrun none (96, 31, ls, st, w) else zrun none (96, 39, ls, st, w) := (zE_ (i := .ifCond .ne 11) (by decide +kernel) _ _ _).trans (zq_if_ne rfl rfl)
theorem e96_31 (v1 v2 v3 : Value) (x : Nat) (st : List Value) (w : zH) : zrun none (96, 31, [.ref x, v1, v2, v3], st, w) = zrun none (96, 32, [.ref x, v1, v2, v3], (.ref x :: st), w) := (zE_ (i := .aload_n 0) (by decide +kernel) _ _ _).trans rfl
theorem e96_32 (v0 v1 v2 : Value) (x : Nat) (st : List Value) (w : zH) : zrun none (96, 32, [v0, v1, v2, .ref x], st, w) = zrun none (96, 33, [v0, v1, v2, .ref x], (.ref x :: st), w) := (zE_ (i := .aload_n 3) (by decide +kernel) _ _ _).trans rfl
theorem e96_32n (v0 v1 v2 : Value) (st : List Value) (w : zH) : zrun none (96, 32, [v0, v1, v2, .null], st, w) = zrun none (96, 33, [v0, v1, v2, .null], (.null :: st), w) := (zE_ (i := .aload_n 3) (by decide +kernel) _ _ _).trans rfl
theorem e96_33 (ls : List Value) (a : Nat) (x0 : Nat) (st : List Value) (w : zH) (hr : zcat st ≤ 8) : zrun none (96, 33, ls, (.ref x0 :: .ref a :: st), w) = zgd (zis w a 11) (zcl (zrun none (136, 0, [.ref a, .ref x0], [], w)) (fun r => zrun none (96, 36, ls, r.1.toList ++ st, r.2))) := by
  refine (zE_ (i := .invokevirtual 136) (by decide +kernel) _ _ _).trans ?_
  show zres (zinv none 136 96 33 ls (.ref x0 :: .ref a :: st) w) = _
  unfold zinv
  show zres (if zrc none 136 w (.ref a) = true then zcall 136 [.ref a, .ref x0] st 96 33 ls w else none) = _
  by_cases hc : zis w a 11
  · rw [if_pos (zrc_is hc (by decide +kernel)), zgd_pos hc]
    exact zq_call hr (Nat.le_of_ble_eq_true rfl) rfl rfl
  · rw [zgd_neg hc, if_neg (fun q => hc (zrc_of q (by decide +kernel)))]
    rfl
theorem e96_36 (ls st : List Value) (w : zH) : zrun none (96, 36, ls, st, w) = zrun none (96, 44, ls, st, w) := (zE_ (i := .goto 8) (by decide +kernel) _ _ _).trans rfl
theorem e96_39 (v1 v2 v3 : Value) (x : Nat) (st : List Value) (w : zH) : zrun none (96, 39, [.ref x, v1, v2, v3], st, w) = zrun none (96, 40, [.ref x, v1, v2, v3], (.ref x :: st), w) := (zE_ (i := .aload_n 0) (by decide +kernel) _ _ _).trans rfl
theorem e96_40 (v0 v1 v2 : Value) (x : Nat) (st : List Value) (w : zH) : zrun none (96, 40, [v0, v1, v2, .ref x], st, w) = zrun none (96, 41, [v0, v1, v2, .ref x], (.ref x :: st), w) := (zE_ (i := .aload_n 3) (by decide +kernel) _ _ _).trans rfl
theorem e96_40n (v0 v1 v2 : Value) (st : List Value) (w : zH) : zrun none (96, 40, [v0, v1, v2, .null], st, w) = zrun none (96, 41, [v0, v1, v2, .null], (.null :: st), w) := (zE_ (i := .aload_n 3) (by decide +kernel) _ _ _).trans rfl
theorem e96_41 (ls : List Value) (a : Nat) (x0 : Nat) (st : List Value) (w : zH) (hr : zcat st ≤ 8) : zrun none (96, 41, ls, (.ref x0 :: .ref a :: st), w) = zgd (zis w a 11) (zcl (zrun none (141, 0, [.ref a, .ref x0], [], w)) (fun r => zrun none (96, 44, ls, r.1.toList ++ st, r.2))) := by
  refine (zE_ (i := .invokevirtual 141) (by decide +kernel) _ _ _).trans ?_
  show zres (zinv none 141 96 41 ls (.ref x0 :: .ref a :: st) w) = _
  unfold zinv
  show zres (if zrc none 141 w (.ref a) = true then zcall 141 [.ref a, .ref x0] st 96 41 ls w else none) = _
  by_cases hc : zis w a 11
  · rw [if_pos (zrc_is hc (by decide +kernel)), zgd_pos hc]
    exact zq_call hr (Nat.le_of_ble_eq_true rfl) rfl rfl
  · rw [zgd_neg hc, if_neg (fun q => hc (zrc_of q (by decide +kernel)))]
    rfl
theorem e96_44 (ls : List Value) (x : Int32) (w : zH) : zrun none (96, 44, ls, [.int x], w) = some (some (.int x), w) := by
  refine (zE_ (i := .ireturn) (by decide +kernel) _ _ _).trans ?_
  show zres (if narrow .int (.int x) = .int x then _ else none) = _
  rw [if_pos (show narrow .int (.int x) = .int x from rfl)]
  rfl
theorem e97_0 (v0 : Value) (x : Int32) (st : List Value) (w : zH) : zrun none (97, 0, [v0, .int x], st, w) = zrun none (97, 1, [v0, .int x], (.int x :: st), w) := (zE_ (i := .iload_n 1) (by decide +kernel) _ _ _).trans rfl
theorem e97_1 (ls : List Value) (a : Int32) (st : List Value) (w : zH) : zrun none (97, 1, ls, (.int a :: st), w) = if a < 0 then zrun none (97, 27, ls, st, w) else zrun none (97, 4, ls, st, w) := (zE_ (i := .ifCond .lt 26) (by decide +kernel) _ _ _).trans (zq_if_lt rfl rfl)
theorem e97_4 (v0 : Value) (x : Int32) (st : List Value) (w : zH) : zrun none (97, 4, [v0, .int x], st, w) = zrun none (97, 5, [v0, .int x], (.int x :: st), w) := (zE_ (i := .iload_n 1) (by decide +kernel) _ _ _).trans rfl
theorem e97_5 (v1 : Value) (x : Nat) (st : List Value) (w : zH) : zrun none (97, 5, [.ref x, v1], st, w) = zrun none (97, 6, [.ref x, v1], (.ref x :: st), w) := (zE_ (i := .aload_n 0) (by decide +kernel) _ _ _).trans rfl
theorem e97_6 (ls : List Value) (a : Nat) (st : List Value) (w : zH) : zrun none (97, 6, ls, (.ref a :: st), w) = zo (zf w a 1118) (fun x => zrun none (97, 9, ls, (x :: st), w)) := (zE_ (i := .getfield 1118) (by decide +kernel) _ _ _).trans zq_getf
theorem e97_9 (ls : List Value) (a b : Int32) (st : List Value) (w : zH) : zrun none (97, 9, ls, (.int b :: .int a :: st), w) = if b ≤ a then zrun none (97, 27, ls, st, w) else zrun none (97, 12, ls, st, w) := (zE_ (i := .if_icmp .ge 18) (by decide +kernel) _ _ _).trans (zq_ic_ge rfl rfl)
theorem e97_12 (v0 : Value) (x : Int32) (st : List Value) (w : zH) : zrun none (97, 12, [v0, .int x], st, w) = zrun none (97, 13, [v0, .int x], (.int x :: st), w) := (zE_ (i := .iload_n 1) (by decide +kernel) _ _ _).trans rfl
theorem e97_13 (ls st : List Value) (w : zH) : zrun none (97, 13, ls, st, w) = zrun none (97, 15, ls, (.int 16 :: st), w) := (zE_ (i := .bipush 16) (by decide +kernel) _ _ _).trans rfl
theorem e97_15 (ls : List Value) (a b : Int32) (st : List Value) (w : zH) : zrun none (97, 15, ls, (.int b :: .int a :: st), w) = if b ≤ a then zrun none (97, 27, ls, st, w) else zrun none (97, 18, ls, st, w) := (zE_ (i := .if_icmp .ge 12) (by decide +kernel) _ _ _).trans (zq_ic_ge rfl rfl)
theorem e97_18 (v1 : Value) (x : Nat) (st : List Value) (w : zH) : zrun none (97, 18, [.ref x, v1], st, w) = zrun none (97, 19, [.ref x, v1], (.ref x :: st), w) := (zE_ (i := .aload_n 0) (by decide +kernel) _ _ _).trans rfl
theorem e97_19 (ls : List Value) (a : Nat) (st : List Value) (w : zH) : zrun none (97, 19, ls, (.ref a :: st), w) = zo (zf w a 1117) (fun x => zrun none (97, 22, ls, (x :: st), w)) := (zE_ (i := .getfield 1117) (by decide +kernel) _ _ _).trans zq_getf
theorem e97_22 (v0 : Value) (x : Int32) (st : List Value) (w : zH) : zrun none (97, 22, [v0, .int x], st, w) = zrun none (97, 23, [v0, .int x], (.int x :: st), w) := (zE_ (i := .iload_n 1) (by decide +kernel) _ _ _).trans rfl
theorem e97_23 (ls : List Value) (j : Int32) (a : Nat) (st : List Value) (w : zH) : zrun none (97, 23, ls, (.int j :: .ref a :: st), w) = zoi (zai w a 100 j) (fun x => zrun none (97, 24, ls, (.int x :: st), w)) := (zE_ (i := .iaload) (by decide +kernel) _ _ _).trans zq_iald
theorem e97_24 (ls st : List Value) (w : zH) : zrun none (97, 24, ls, st, w) = zrun none (97, 30, ls, st, w) := (zE_ (i := .goto 6) (by decide +kernel) _ _ _).trans rfl
theorem e97_27 (ls st : List Value) (w : zH) : zrun none (97, 27, ls, st, w) = zrun none (97, 30, ls, (.int (-1000000) :: st), w) := (zE_ (i := .sipush (-1000000)) (by decide +kernel) _ _ _).trans rfl
theorem e97_30 (ls : List Value) (x : Int32) (w : zH) : zrun none (97, 30, ls, [.int x], w) = some (some (.int x), w) := by
  refine (zE_ (i := .ireturn) (by decide +kernel) _ _ _).trans ?_
  show zres (if narrow .int (.int x) = .int x then _ else none) = _
  rw [if_pos (show narrow .int (.int x) = .int x from rfl)]
  rfl
theorem e98_0 (v0 : Value) (x : Int32) (st : List Value) (w : zH) : zrun none (98, 0, [v0, .int x], st, w) = zrun none (98, 1, [v0, .int x], (.int x :: st), w) := (zE_ (i := .iload_n 1) (by decide +kernel) _ _ _).trans rfl
theorem e98_1 (ls : List Value) (a : Int32) (st : List Value) (w : zH) : zrun none (98, 1, ls, (.int a :: st), w) = if a = 0 then zrun none (98, 56, ls, st, w) else if a = 1 then zrun none (98, 61, ls, st, w) else if a = 2 then zrun none (98, 69, ls, st, w) else if a = 3 then zrun none (98, 74, ls, st, w) else if a = 4 then zrun none (98, 80, ls, st, w) else if a = 5 then zrun none (98, 86, ls, st, w) else if a = 6 then zrun none (98, 91, ls, st, w) else if a = 7 then zrun none (98, 96, ls, st, w) else if a = 8 then zrun none (98, 101, ls, st, w) else if a = 9 then zrun none (98, 109, ls, st, w) else zrun none (98, 117, ls, st, w) := by
  refine (zE_ (i := .tableswitch 116 0 9 #[55, 60, 68, 73, 79, 85, 90, 95, 100, 108]) (by decide +kernel) _ _ _).trans ?_
  by_cases h1000 : a = 0
  · subst h1000
    rfl
  rw [if_neg h1000]
  by_cases h1001 : a = 1
  · subst h1001
    rfl
  rw [if_neg h1001]
  by_cases h1002 : a = 2
  · subst h1002
    rfl
  rw [if_neg h1002]
  by_cases h1003 : a = 3
  · subst h1003
    rfl
  rw [if_neg h1003]
  by_cases h1004 : a = 4
  · subst h1004
    rfl
  rw [if_neg h1004]
  by_cases h1005 : a = 5
  · subst h1005
    rfl
  rw [if_neg h1005]
  by_cases h1006 : a = 6
  · subst h1006
    rfl
  rw [if_neg h1006]
  by_cases h1007 : a = 7
  · subst h1007
    rfl
  rw [if_neg h1007]
  by_cases h1008 : a = 8
  · subst h1008
    rfl
  rw [if_neg h1008]
  by_cases h1009 : a = 9
  · subst h1009
    rfl
  rw [if_neg h1009]
  have hr : a.toInt < 0 ∨ 9 < a.toInt := by
    by_cases q1 : a.toInt < 0
    · exact Or.inl q1
    by_cases q2 : 9 < a.toInt
    · exact Or.inr q2
    exfalso
    have k1000 := zne32 h1000
    have k1001 := zne32 h1001
    have k1002 := zne32 h1002
    have k1003 := zne32 h1003
    have k1004 := zne32 h1004
    have k1005 := zne32 h1005
    have k1006 := zne32 h1006
    have k1007 := zne32 h1007
    have k1008 := zne32 h1008
    have k1009 := zne32 h1009
    have j1000 : ((0 : Int32)).toInt = 0 := by decide
    rw [j1000] at k1000
    have j1001 : ((1 : Int32)).toInt = 1 := by decide
    rw [j1001] at k1001
    have j1002 : ((2 : Int32)).toInt = 2 := by decide
    rw [j1002] at k1002
    have j1003 : ((3 : Int32)).toInt = 3 := by decide
    rw [j1003] at k1003
    have j1004 : ((4 : Int32)).toInt = 4 := by decide
    rw [j1004] at k1004
    have j1005 : ((5 : Int32)).toInt = 5 := by decide
    rw [j1005] at k1005
    have j1006 : ((6 : Int32)).toInt = 6 := by decide
    rw [j1006] at k1006
    have j1007 : ((7 : Int32)).toInt = 7 := by decide
    rw [j1007] at k1007
    have j1008 : ((8 : Int32)).toInt = 8 := by decide
    rw [j1008] at k1008
    have j1009 : ((9 : Int32)).toInt = 9 := by decide
    rw [j1009] at k1009
    omega
  simp only [zI, if_pos hr]
  rfl
theorem e98_56 (v1 : Value) (x : Nat) (st : List Value) (w : zH) : zrun none (98, 56, [.ref x, v1], st, w) = zrun none (98, 57, [.ref x, v1], (.ref x :: st), w) := (zE_ (i := .aload_n 0) (by decide +kernel) _ _ _).trans rfl
theorem e98_57 (ls : List Value) (a : Nat) (st : List Value) (w : zH) (hr : zcat st ≤ 8) : zrun none (98, 57, ls, (.ref a :: st), w) = zgd (zis w a 11) (zcl (zrun none (120, 0, [.ref a, zJ, zJ, zJ], [], w)) (fun r => zrun none (98, 60, ls, r.1.toList ++ st, r.2))) := by
  refine (zE_ (i := .invokevirtual 120) (by decide +kernel) _ _ _).trans ?_
  show zres (zinv none 120 98 57 ls (.ref a :: st) w) = _
  unfold zinv
  show zres (if zrc none 120 w (.ref a) = true then zcall 120 [.ref a] st 98 57 ls w else none) = _
  by_cases hc : zis w a 11
  · rw [if_pos (zrc_is hc (by decide +kernel)), zgd_pos hc]
    exact zq_call hr (Nat.le_of_ble_eq_true rfl) rfl rfl
  · rw [zgd_neg hc, if_neg (fun q => hc (zrc_of q (by decide +kernel)))]
    rfl
theorem e98_60 (ls : List Value) (x : Int32) (w : zH) : zrun none (98, 60, ls, [.int x], w) = some (some (.int x), w) := by
  refine (zE_ (i := .ireturn) (by decide +kernel) _ _ _).trans ?_
  show zres (if narrow .int (.int x) = .int x then _ else none) = _
  rw [if_pos (show narrow .int (.int x) = .int x from rfl)]
  rfl
theorem e98_61 (v1 : Value) (x : Nat) (st : List Value) (w : zH) : zrun none (98, 61, [.ref x, v1], st, w) = zrun none (98, 62, [.ref x, v1], (.ref x :: st), w) := (zE_ (i := .aload_n 0) (by decide +kernel) _ _ _).trans rfl
theorem e98_62 (ls : List Value) (a : Nat) (st : List Value) (w : zH) : zrun none (98, 62, ls, (.ref a :: st), w) = zo (zf w a 1101) (fun x => zrun none (98, 65, ls, (x :: st), w)) := (zE_ (i := .getfield 1101) (by decide +kernel) _ _ _).trans zq_getf
theorem e98_65 (ls : List Value) (a : Nat) (st : List Value) (w : zH) : zrun none (98, 65, ls, (.ref a :: st), w) = zo (zf w a 302) (fun x => zrun none (98, 68, ls, (x :: st), w)) := (zE_ (i := .getfield 302) (by decide +kernel) _ _ _).trans zq_getf
theorem e98_68 (ls : List Value) (x : Int32) (w : zH) : zrun none (98, 68, ls, [.int x], w) = some (some (.int x), w) := by
  refine (zE_ (i := .ireturn) (by decide +kernel) _ _ _).trans ?_
  show zres (if narrow .int (.int x) = .int x then _ else none) = _
  rw [if_pos (show narrow .int (.int x) = .int x from rfl)]
  rfl
theorem e98_69 (v1 : Value) (x : Nat) (st : List Value) (w : zH) : zrun none (98, 69, [.ref x, v1], st, w) = zrun none (98, 70, [.ref x, v1], (.ref x :: st), w) := (zE_ (i := .aload_n 0) (by decide +kernel) _ _ _).trans rfl
theorem e98_70 (ls : List Value) (a : Nat) (st : List Value) (w : zH) : zrun none (98, 70, ls, (.ref a :: st), w) = zo (zf w a 1103) (fun x => zrun none (98, 73, ls, (x :: st), w)) := (zE_ (i := .getfield 1103) (by decide +kernel) _ _ _).trans zq_getf
theorem e98_73 (ls : List Value) (x : Int32) (w : zH) : zrun none (98, 73, ls, [.int x], w) = some (some (.int x), w) := by
  refine (zE_ (i := .ireturn) (by decide +kernel) _ _ _).trans ?_
  show zres (if narrow .int (.int x) = .int x then _ else none) = _
  rw [if_pos (show narrow .int (.int x) = .int x from rfl)]
  rfl
theorem e98_74 (v1 : Value) (x : Nat) (st : List Value) (w : zH) : zrun none (98, 74, [.ref x, v1], st, w) = zrun none (98, 75, [.ref x, v1], (.ref x :: st), w) := (zE_ (i := .aload_n 0) (by decide +kernel) _ _ _).trans rfl
theorem e98_75 (ls st : List Value) (w : zH) : zrun none (98, 75, ls, st, w) = zrun none (98, 76, ls, (.int 1 :: st), w) := (zE_ (i := .iconst 1) (by decide +kernel) _ _ _).trans rfl
theorem e98_76 (ls : List Value) (a : Nat) (x0 : Int32) (st : List Value) (w : zH) (hr : zcat st ≤ 8) : zrun none (98, 76, ls, (.int x0 :: .ref a :: st), w) = zgd (zis w a 11) (zcl (zrun none (119, 0, [.ref a, .int x0, zJ, zJ, zJ], [], w)) (fun r => zrun none (98, 79, ls, r.1.toList ++ st, r.2))) := by
  refine (zE_ (i := .invokevirtual 119) (by decide +kernel) _ _ _).trans ?_
  show zres (zinv none 119 98 76 ls (.int x0 :: .ref a :: st) w) = _
  unfold zinv
  show zres (if zrc none 119 w (.ref a) = true then zcall 119 [.ref a, .int x0] st 98 76 ls w else none) = _
  by_cases hc : zis w a 11
  · rw [if_pos (zrc_is hc (by decide +kernel)), zgd_pos hc]
    exact zq_call hr (Nat.le_of_ble_eq_true rfl) rfl rfl
  · rw [zgd_neg hc, if_neg (fun q => hc (zrc_of q (by decide +kernel)))]
    rfl
theorem e98_79 (ls : List Value) (x : Int32) (w : zH) : zrun none (98, 79, ls, [.int x], w) = some (some (.int x), w) := by
  refine (zE_ (i := .ireturn) (by decide +kernel) _ _ _).trans ?_
  show zres (if narrow .int (.int x) = .int x then _ else none) = _
  rw [if_pos (show narrow .int (.int x) = .int x from rfl)]
  rfl
theorem e98_80 (v1 : Value) (x : Nat) (st : List Value) (w : zH) : zrun none (98, 80, [.ref x, v1], st, w) = zrun none (98, 81, [.ref x, v1], (.ref x :: st), w) := (zE_ (i := .aload_n 0) (by decide +kernel) _ _ _).trans rfl
theorem e98_81 (ls st : List Value) (w : zH) : zrun none (98, 81, ls, st, w) = zrun none (98, 82, ls, (.int 2 :: st), w) := (zE_ (i := .iconst 2) (by decide +kernel) _ _ _).trans rfl
theorem e98_82 (ls : List Value) (a : Nat) (x0 : Int32) (st : List Value) (w : zH) (hr : zcat st ≤ 8) : zrun none (98, 82, ls, (.int x0 :: .ref a :: st), w) = zgd (zis w a 11) (zcl (zrun none (119, 0, [.ref a, .int x0, zJ, zJ, zJ], [], w)) (fun r => zrun none (98, 85, ls, r.1.toList ++ st, r.2))) := by
  refine (zE_ (i := .invokevirtual 119) (by decide +kernel) _ _ _).trans ?_
  show zres (zinv none 119 98 82 ls (.int x0 :: .ref a :: st) w) = _
  unfold zinv
  show zres (if zrc none 119 w (.ref a) = true then zcall 119 [.ref a, .int x0] st 98 82 ls w else none) = _
  by_cases hc : zis w a 11
  · rw [if_pos (zrc_is hc (by decide +kernel)), zgd_pos hc]
    exact zq_call hr (Nat.le_of_ble_eq_true rfl) rfl rfl
  · rw [zgd_neg hc, if_neg (fun q => hc (zrc_of q (by decide +kernel)))]
    rfl
theorem e98_85 (ls : List Value) (x : Int32) (w : zH) : zrun none (98, 85, ls, [.int x], w) = some (some (.int x), w) := by
  refine (zE_ (i := .ireturn) (by decide +kernel) _ _ _).trans ?_
  show zres (if narrow .int (.int x) = .int x then _ else none) = _
  rw [if_pos (show narrow .int (.int x) = .int x from rfl)]
  rfl
theorem e98_86 (v1 : Value) (x : Nat) (st : List Value) (w : zH) : zrun none (98, 86, [.ref x, v1], st, w) = zrun none (98, 87, [.ref x, v1], (.ref x :: st), w) := (zE_ (i := .aload_n 0) (by decide +kernel) _ _ _).trans rfl
theorem e98_87 (ls : List Value) (a : Nat) (st : List Value) (w : zH) : zrun none (98, 87, ls, (.ref a :: st), w) = zo (zf w a 1106) (fun x => zrun none (98, 90, ls, (x :: st), w)) := (zE_ (i := .getfield 1106) (by decide +kernel) _ _ _).trans zq_getf
theorem e98_90 (ls : List Value) (x : Int32) (w : zH) : zrun none (98, 90, ls, [.int x], w) = some (some (.int x), w) := by
  refine (zE_ (i := .ireturn) (by decide +kernel) _ _ _).trans ?_
  show zres (if narrow .int (.int x) = .int x then _ else none) = _
  rw [if_pos (show narrow .int (.int x) = .int x from rfl)]
  rfl
theorem e98_91 (v1 : Value) (x : Nat) (st : List Value) (w : zH) : zrun none (98, 91, [.ref x, v1], st, w) = zrun none (98, 92, [.ref x, v1], (.ref x :: st), w) := (zE_ (i := .aload_n 0) (by decide +kernel) _ _ _).trans rfl
theorem e98_92 (ls : List Value) (a : Nat) (st : List Value) (w : zH) : zrun none (98, 92, ls, (.ref a :: st), w) = zo (zf w a 1109) (fun x => zrun none (98, 95, ls, (x :: st), w)) := (zE_ (i := .getfield 1109) (by decide +kernel) _ _ _).trans zq_getf
theorem e98_95 (ls : List Value) (x : Int32) (w : zH) : zrun none (98, 95, ls, [.int x], w) = some (some (.int x), w) := by
  refine (zE_ (i := .ireturn) (by decide +kernel) _ _ _).trans ?_
  show zres (if narrow .int (.int x) = .int x then _ else none) = _
  rw [if_pos (show narrow .int (.int x) = .int x from rfl)]
  rfl
theorem e98_96 (v1 : Value) (x : Nat) (st : List Value) (w : zH) : zrun none (98, 96, [.ref x, v1], st, w) = zrun none (98, 97, [.ref x, v1], (.ref x :: st), w) := (zE_ (i := .aload_n 0) (by decide +kernel) _ _ _).trans rfl
theorem e98_97 (ls : List Value) (a : Nat) (st : List Value) (w : zH) : zrun none (98, 97, ls, (.ref a :: st), w) = zo (zf w a 1112) (fun x => zrun none (98, 100, ls, (x :: st), w)) := (zE_ (i := .getfield 1112) (by decide +kernel) _ _ _).trans zq_getf
theorem e98_100 (ls : List Value) (x : Int32) (w : zH) : zrun none (98, 100, ls, [.int x], w) = some (some (.int x), w) := by
  refine (zE_ (i := .ireturn) (by decide +kernel) _ _ _).trans ?_
  show zres (if narrow .int (.int x) = .int x then _ else none) = _
  rw [if_pos (show narrow .int (.int x) = .int x from rfl)]
  rfl
theorem e98_101 (v1 : Value) (x : Nat) (st : List Value) (w : zH) : zrun none (98, 101, [.ref x, v1], st, w) = zrun none (98, 102, [.ref x, v1], (.ref x :: st), w) := (zE_ (i := .aload_n 0) (by decide +kernel) _ _ _).trans rfl
theorem e98_102 (ls : List Value) (a : Nat) (st : List Value) (w : zH) : zrun none (98, 102, ls, (.ref a :: st), w) = zo (zf w a 1115) (fun x => zrun none (98, 105, ls, (x :: st), w)) := (zE_ (i := .getfield 1115) (by decide +kernel) _ _ _).trans zq_getf
theorem e98_105 (ls : List Value) (a : Nat) (st : List Value) (w : zH) : zrun none (98, 105, ls, (.ref a :: st), w) = zo (zf w a 202) (fun x => zrun none (98, 108, ls, (x :: st), w)) := (zE_ (i := .getfield 202) (by decide +kernel) _ _ _).trans zq_getf
theorem e98_108 (ls : List Value) (x : Int32) (w : zH) : zrun none (98, 108, ls, [.int x], w) = some (some (.int x), w) := by
  refine (zE_ (i := .ireturn) (by decide +kernel) _ _ _).trans ?_
  show zres (if narrow .int (.int x) = .int x then _ else none) = _
  rw [if_pos (show narrow .int (.int x) = .int x from rfl)]
  rfl
theorem e98_109 (v1 : Value) (x : Nat) (st : List Value) (w : zH) : zrun none (98, 109, [.ref x, v1], st, w) = zrun none (98, 110, [.ref x, v1], (.ref x :: st), w) := (zE_ (i := .aload_n 0) (by decide +kernel) _ _ _).trans rfl
theorem e98_110 (ls : List Value) (a : Nat) (st : List Value) (w : zH) : zrun none (98, 110, ls, (.ref a :: st), w) = zo (zf w a 1104) (fun x => zrun none (98, 113, ls, (x :: st), w)) := (zE_ (i := .getfield 1104) (by decide +kernel) _ _ _).trans zq_getf
theorem e98_113 (ls : List Value) (a : Nat) (st : List Value) (w : zH) : zrun none (98, 113, ls, (.ref a :: st), w) = zo (zf w a 901) (fun x => zrun none (98, 116, ls, (x :: st), w)) := (zE_ (i := .getfield 901) (by decide +kernel) _ _ _).trans zq_getf
theorem e98_116 (ls : List Value) (x : Int32) (w : zH) : zrun none (98, 116, ls, [.int x], w) = some (some (.int x), w) := by
  refine (zE_ (i := .ireturn) (by decide +kernel) _ _ _).trans ?_
  show zres (if narrow .int (.int x) = .int x then _ else none) = _
  rw [if_pos (show narrow .int (.int x) = .int x from rfl)]
  rfl
theorem e98_117 (ls st : List Value) (w : zH) : zrun none (98, 117, ls, st, w) = zrun none (98, 119, ls, (.int (-1000001) :: st), w) := (zE_ (i := .bipush (-1000001)) (by decide +kernel) _ _ _).trans rfl
theorem e98_119 (ls : List Value) (x : Int32) (w : zH) : zrun none (98, 119, ls, [.int x], w) = some (some (.int x), w) := by
  refine (zE_ (i := .ireturn) (by decide +kernel) _ _ _).trans ?_
  show zres (if narrow .int (.int x) = .int x then _ else none) = _
  rw [if_pos (show narrow .int (.int x) = .int x from rfl)]
  rfl
theorem e99_0 (x : Nat) (st : List Value) (w : zH) : zrun none (99, 0, [.ref x], st, w) = zrun none (99, 1, [.ref x], (.ref x :: st), w) := (zE_ (i := .aload_n 0) (by decide +kernel) _ _ _).trans rfl
theorem e99_1 (ls : List Value) (a : Nat) (st : List Value) (w : zH) : zrun none (99, 1, ls, (.ref a :: st), w) = zo (zf w a 1119) (fun x => zrun none (99, 4, ls, (x :: st), w)) := (zE_ (i := .getfield 1119) (by decide +kernel) _ _ _).trans zq_getf
theorem e99_4 (ls : List Value) (x : Int32) (w : zH) : zrun none (99, 4, ls, [.int x], w) = some (some (.int x), w) := by
  refine (zE_ (i := .ireturn) (by decide +kernel) _ _ _).trans ?_
  show zres (if narrow .int (.int x) = .int x then _ else none) = _
  rw [if_pos (show narrow .int (.int x) = .int x from rfl)]
  rfl
theorem e100_0 (v1 v2 : Value) (x : Int32) (st : List Value) (w : zH) : zrun none (100, 0, [.int x, v1, v2], st, w) = zrun none (100, 1, [.int x, v1, v2], (.int x :: st), w) := (zE_ (i := .iload_n 0) (by decide +kernel) _ _ _).trans rfl
theorem e100_1 (v0 v2 : Value) (x : Int32) (st : List Value) (w : zH) : zrun none (100, 1, [v0, .int x, v2], st, w) = zrun none (100, 2, [v0, .int x, v2], (.int x :: st), w) := (zE_ (i := .iload_n 1) (by decide +kernel) _ _ _).trans rfl
theorem e100_2 (ls : List Value) (a b : Int32) (st : List Value) (w : zH) : zrun none (100, 2, ls, (.int b :: .int a :: st), w) = if a < b then zrun none (100, 14, ls, st, w) else zrun none (100, 5, ls, st, w) := (zE_ (i := .if_icmp .lt 12) (by decide +kernel) _ _ _).trans (zq_ic_lt rfl rfl)
theorem e100_5 (v1 v2 : Value) (x : Int32) (st : List Value) (w : zH) : zrun none (100, 5, [.int x, v1, v2], st, w) = zrun none (100, 6, [.int x, v1, v2], (.int x :: st), w) := (zE_ (i := .iload_n 0) (by decide +kernel) _ _ _).trans rfl
theorem e100_6 (v0 v1 : Value) (x : Int32) (st : List Value) (w : zH) : zrun none (100, 6, [v0, v1, .int x], st, w) = zrun none (100, 7, [v0, v1, .int x], (.int x :: st), w) := (zE_ (i := .iload_n 2) (by decide +kernel) _ _ _).trans rfl
theorem e100_7 (ls : List Value) (a b : Int32) (st : List Value) (w : zH) : zrun none (100, 7, ls, (.int b :: .int a :: st), w) = if b < a then zrun none (100, 14, ls, st, w) else zrun none (100, 10, ls, st, w) := (zE_ (i := .if_icmp .gt 7) (by decide +kernel) _ _ _).trans (zq_ic_gt rfl rfl)
theorem e100_10 (ls st : List Value) (w : zH) : zrun none (100, 10, ls, st, w) = zrun none (100, 11, ls, (.int 1 :: st), w) := (zE_ (i := .iconst 1) (by decide +kernel) _ _ _).trans rfl
theorem e100_11 (ls st : List Value) (w : zH) : zrun none (100, 11, ls, st, w) = zrun none (100, 15, ls, st, w) := (zE_ (i := .goto 4) (by decide +kernel) _ _ _).trans rfl
theorem e100_14 (ls st : List Value) (w : zH) : zrun none (100, 14, ls, st, w) = zrun none (100, 15, ls, (.int 0 :: st), w) := (zE_ (i := .iconst 0) (by decide +kernel) _ _ _).trans rfl
theorem e100_15 (ls : List Value) (x : Int32) (w : zH) (h : narrow .boolean (.int x) = .int x) : zrun none (100, 15, ls, [.int x], w) = some (some (.int x), w) := by
  refine (zE_ (i := .ireturn) (by decide +kernel) _ _ _).trans ?_
  show zres (if narrow .boolean (.int x) = .int x then _ else none) = _
  rw [if_pos h]
  rfl
theorem e101_0 (x : Int32) (st : List Value) (w : zH) : zrun none (101, 0, [.int x], st, w) = zrun none (101, 1, [.int x], (.int x :: st), w) := (zE_ (i := .iload_n 0) (by decide +kernel) _ _ _).trans rfl
theorem e101_1 (ls st : List Value) (w : zH) : zrun none (101, 1, ls, st, w) = zrun none (101, 2, ls, (.int 0 :: st), w) := (zE_ (i := .iconst 0) (by decide +kernel) _ _ _).trans rfl
theorem e101_2 (ls st : List Value) (w : zH) : zrun none (101, 2, ls, st, w) = zrun none (101, 5, ls, (.int 99999 :: st), w) := (zE_ (i := .sipush (99999)) (by decide +kernel) _ _ _).trans rfl
theorem e101_5 (ls : List Value) (x0 : Int32) (x1 : Int32) (x2 : Int32) (st : List Value) (w : zH) (hr : zcat st ≤ 8) : zrun none (101, 5, ls, (.int x2 :: .int x1 :: .int x0 :: st), w) = zcl (zrun none (100, 0, [.int x0, .int x1, .int x2], [], w)) (fun r => zrun none (101, 8, ls, r.1.toList ++ st, r.2)) := by
  refine (zE_ (i := .invokestatic 100) (by decide +kernel) _ _ _).trans ?_
  show zres (if (99 : Nat) = 99 ∧ 3 ≤ ((.int x2 :: .int x1 :: .int x0 :: st) : List Value).length then zcall 100 [.int x0, .int x1, .int x2] st 101 5 ls w else none) = _
  rw [if_pos ⟨rfl, by simp⟩]
  exact zq_call hr (Nat.le_of_ble_eq_true rfl) rfl rfl
theorem e101_8 (ls : List Value) (x : Int32) (w : zH) (h : narrow .boolean (.int x) = .int x) : zrun none (101, 8, ls, [.int x], w) = some (some (.int x), w) := by
  refine (zE_ (i := .ireturn) (by decide +kernel) _ _ _).trans ?_
  show zres (if narrow .boolean (.int x) = .int x then _ else none) = _
  rw [if_pos h]
  rfl
theorem e102_0 (x : Int32) (st : List Value) (w : zH) : zrun none (102, 0, [.int x], st, w) = zrun none (102, 1, [.int x], (.int x :: st), w) := (zE_ (i := .iload_n 0) (by decide +kernel) _ _ _).trans rfl
theorem e102_1 (ls st : List Value) (w : zH) : zrun none (102, 1, ls, st, w) = zrun none (102, 2, ls, (.int 0 :: st), w) := (zE_ (i := .iconst 0) (by decide +kernel) _ _ _).trans rfl
theorem e102_2 (ls st : List Value) (w : zH) : zrun none (102, 2, ls, st, w) = zrun none (102, 3, ls, (.int 3 :: st), w) := (zE_ (i := .iconst 3) (by decide +kernel) _ _ _).trans rfl
theorem e102_3 (ls : List Value) (x0 : Int32) (x1 : Int32) (x2 : Int32) (st : List Value) (w : zH) (hr : zcat st ≤ 8) : zrun none (102, 3, ls, (.int x2 :: .int x1 :: .int x0 :: st), w) = zcl (zrun none (100, 0, [.int x0, .int x1, .int x2], [], w)) (fun r => zrun none (102, 6, ls, r.1.toList ++ st, r.2)) := by
  refine (zE_ (i := .invokestatic 100) (by decide +kernel) _ _ _).trans ?_
  show zres (if (99 : Nat) = 99 ∧ 3 ≤ ((.int x2 :: .int x1 :: .int x0 :: st) : List Value).length then zcall 100 [.int x0, .int x1, .int x2] st 102 3 ls w else none) = _
  rw [if_pos ⟨rfl, by simp⟩]
  exact zq_call hr (Nat.le_of_ble_eq_true rfl) rfl rfl
theorem e102_6 (ls : List Value) (x : Int32) (w : zH) (h : narrow .boolean (.int x) = .int x) : zrun none (102, 6, ls, [.int x], w) = some (some (.int x), w) := by
  refine (zE_ (i := .ireturn) (by decide +kernel) _ _ _).trans ?_
  show zres (if narrow .boolean (.int x) = .int x then _ else none) = _
  rw [if_pos h]
  rfl
theorem e103_0 (x : Int32) (st : List Value) (w : zH) : zrun none (103, 0, [.int x], st, w) = zrun none (103, 1, [.int x], (.int x :: st), w) := (zE_ (i := .iload_n 0) (by decide +kernel) _ _ _).trans rfl
theorem e103_1 (ls st : List Value) (w : zH) : zrun none (103, 1, ls, st, w) = zrun none (103, 2, ls, (.int 0 :: st), w) := (zE_ (i := .iconst 0) (by decide +kernel) _ _ _).trans rfl
theorem e103_2 (ls st : List Value) (w : zH) : zrun none (103, 2, ls, st, w) = zrun none (103, 3, ls, (.int 3 :: st), w) := (zE_ (i := .iconst 3) (by decide +kernel) _ _ _).trans rfl
theorem e103_3 (ls : List Value) (x0 : Int32) (x1 : Int32) (x2 : Int32) (st : List Value) (w : zH) (hr : zcat st ≤ 8) : zrun none (103, 3, ls, (.int x2 :: .int x1 :: .int x0 :: st), w) = zcl (zrun none (100, 0, [.int x0, .int x1, .int x2], [], w)) (fun r => zrun none (103, 6, ls, r.1.toList ++ st, r.2)) := by
  refine (zE_ (i := .invokestatic 100) (by decide +kernel) _ _ _).trans ?_
  show zres (if (99 : Nat) = 99 ∧ 3 ≤ ((.int x2 :: .int x1 :: .int x0 :: st) : List Value).length then zcall 100 [.int x0, .int x1, .int x2] st 103 3 ls w else none) = _
  rw [if_pos ⟨rfl, by simp⟩]
  exact zq_call hr (Nat.le_of_ble_eq_true rfl) rfl rfl
theorem e103_6 (ls : List Value) (x : Int32) (w : zH) (h : narrow .boolean (.int x) = .int x) : zrun none (103, 6, ls, [.int x], w) = some (some (.int x), w) := by
  refine (zE_ (i := .ireturn) (by decide +kernel) _ _ _).trans ?_
  show zres (if narrow .boolean (.int x) = .int x then _ else none) = _
  rw [if_pos h]
  rfl
theorem e104_0 (x : Int32) (st : List Value) (w : zH) : zrun none (104, 0, [.int x], st, w) = zrun none (104, 1, [.int x], (.int x :: st), w) := (zE_ (i := .iload_n 0) (by decide +kernel) _ _ _).trans rfl
theorem e104_1 (ls st : List Value) (w : zH) : zrun none (104, 1, ls, st, w) = zrun none (104, 2, ls, (.int 0 :: st), w) := (zE_ (i := .iconst 0) (by decide +kernel) _ _ _).trans rfl
theorem e104_2 (ls st : List Value) (w : zH) : zrun none (104, 2, ls, st, w) = zrun none (104, 4, ls, (.int 7 :: st), w) := (zE_ (i := .bipush 7) (by decide +kernel) _ _ _).trans rfl
theorem e104_4 (ls : List Value) (x0 : Int32) (x1 : Int32) (x2 : Int32) (st : List Value) (w : zH) (hr : zcat st ≤ 8) : zrun none (104, 4, ls, (.int x2 :: .int x1 :: .int x0 :: st), w) = zcl (zrun none (100, 0, [.int x0, .int x1, .int x2], [], w)) (fun r => zrun none (104, 7, ls, r.1.toList ++ st, r.2)) := by
  refine (zE_ (i := .invokestatic 100) (by decide +kernel) _ _ _).trans ?_
  show zres (if (99 : Nat) = 99 ∧ 3 ≤ ((.int x2 :: .int x1 :: .int x0 :: st) : List Value).length then zcall 100 [.int x0, .int x1, .int x2] st 104 4 ls w else none) = _
  rw [if_pos ⟨rfl, by simp⟩]
  exact zq_call hr (Nat.le_of_ble_eq_true rfl) rfl rfl
theorem e104_7 (ls : List Value) (x : Int32) (w : zH) (h : narrow .boolean (.int x) = .int x) : zrun none (104, 7, ls, [.int x], w) = some (some (.int x), w) := by
  refine (zE_ (i := .ireturn) (by decide +kernel) _ _ _).trans ?_
  show zres (if narrow .boolean (.int x) = .int x then _ else none) = _
  rw [if_pos h]
  rfl
theorem e105_0 (x : Int32) (st : List Value) (w : zH) : zrun none (105, 0, [.int x], st, w) = zrun none (105, 1, [.int x], (.int x :: st), w) := (zE_ (i := .iload_n 0) (by decide +kernel) _ _ _).trans rfl
theorem e105_1 (ls st : List Value) (w : zH) : zrun none (105, 1, ls, st, w) = zrun none (105, 2, ls, (.int 0 :: st), w) := (zE_ (i := .iconst 0) (by decide +kernel) _ _ _).trans rfl
theorem e105_2 (ls st : List Value) (w : zH) : zrun none (105, 2, ls, st, w) = zrun none (105, 5, ls, (.int 4095 :: st), w) := (zE_ (i := .sipush 4095) (by decide +kernel) _ _ _).trans rfl
theorem e105_5 (ls : List Value) (x0 : Int32) (x1 : Int32) (x2 : Int32) (st : List Value) (w : zH) (hr : zcat st ≤ 8) : zrun none (105, 5, ls, (.int x2 :: .int x1 :: .int x0 :: st), w) = zcl (zrun none (100, 0, [.int x0, .int x1, .int x2], [], w)) (fun r => zrun none (105, 8, ls, r.1.toList ++ st, r.2)) := by
  refine (zE_ (i := .invokestatic 100) (by decide +kernel) _ _ _).trans ?_
  show zres (if (99 : Nat) = 99 ∧ 3 ≤ ((.int x2 :: .int x1 :: .int x0 :: st) : List Value).length then zcall 100 [.int x0, .int x1, .int x2] st 105 5 ls w else none) = _
  rw [if_pos ⟨rfl, by simp⟩]
  exact zq_call hr (Nat.le_of_ble_eq_true rfl) rfl rfl
theorem e105_8 (ls : List Value) (x : Int32) (w : zH) (h : narrow .boolean (.int x) = .int x) : zrun none (105, 8, ls, [.int x], w) = some (some (.int x), w) := by
  refine (zE_ (i := .ireturn) (by decide +kernel) _ _ _).trans ?_
  show zres (if narrow .boolean (.int x) = .int x then _ else none) = _
  rw [if_pos h]
  rfl
theorem e106_0 (v1 : Value) (x : Int32) (st : List Value) (w : zH) : zrun none (106, 0, [.int x, v1], st, w) = zrun none (106, 1, [.int x, v1], (.int x :: st), w) := (zE_ (i := .iload_n 0) (by decide +kernel) _ _ _).trans rfl
theorem e106_1 (ls st : List Value) (w : zH) : zrun none (106, 1, ls, st, w) = zrun none (106, 2, ls, (.int 0 :: st), w) := (zE_ (i := .iconst 0) (by decide +kernel) _ _ _).trans rfl
theorem e106_2 (ls st : List Value) (w : zH) : zrun none (106, 2, ls, st, w) = zrun none (106, 4, ls, (.int 9 :: st), w) := (zE_ (i := .bipush 9) (by decide +kernel) _ _ _).trans rfl
theorem e106_4 (ls : List Value) (x0 : Int32) (x1 : Int32) (x2 : Int32) (st : List Value) (w : zH) (hr : zcat st ≤ 8) : zrun none (106, 4, ls, (.int x2 :: .int x1 :: .int x0 :: st), w) = zcl (zrun none (100, 0, [.int x0, .int x1, .int x2], [], w)) (fun r => zrun none (106, 7, ls, r.1.toList ++ st, r.2)) := by
  refine (zE_ (i := .invokestatic 100) (by decide +kernel) _ _ _).trans ?_
  show zres (if (99 : Nat) = 99 ∧ 3 ≤ ((.int x2 :: .int x1 :: .int x0 :: st) : List Value).length then zcall 100 [.int x0, .int x1, .int x2] st 106 4 ls w else none) = _
  rw [if_pos ⟨rfl, by simp⟩]
  exact zq_call hr (Nat.le_of_ble_eq_true rfl) rfl rfl
theorem e106_7 (ls : List Value) (a : Int32) (st : List Value) (w : zH) : zrun none (106, 7, ls, (.int a :: st), w) = if a = 0 then zrun none (106, 24, ls, st, w) else zrun none (106, 10, ls, st, w) := (zE_ (i := .ifCond .eq 17) (by decide +kernel) _ _ _).trans (zq_if_eq rfl rfl)
theorem e106_10 (v0 : Value) (x : Int32) (st : List Value) (w : zH) : zrun none (106, 10, [v0, .int x], st, w) = zrun none (106, 11, [v0, .int x], (.int x :: st), w) := (zE_ (i := .iload_n 1) (by decide +kernel) _ _ _).trans rfl
theorem e106_11 (ls st : List Value) (w : zH) : zrun none (106, 11, ls, st, w) = zrun none (106, 12, ls, (.int 0 :: st), w) := (zE_ (i := .iconst 0) (by decide +kernel) _ _ _).trans rfl
theorem e106_12 (ls st : List Value) (w : zH) : zrun none (106, 12, ls, st, w) = zrun none (106, 14, ls, (.int 9 :: st), w) := (zE_ (i := .bipush 9) (by decide +kernel) _ _ _).trans rfl
theorem e106_14 (ls : List Value) (x0 : Int32) (x1 : Int32) (x2 : Int32) (st : List Value) (w : zH) (hr : zcat st ≤ 8) : zrun none (106, 14, ls, (.int x2 :: .int x1 :: .int x0 :: st), w) = zcl (zrun none (100, 0, [.int x0, .int x1, .int x2], [], w)) (fun r => zrun none (106, 17, ls, r.1.toList ++ st, r.2)) := by
  refine (zE_ (i := .invokestatic 100) (by decide +kernel) _ _ _).trans ?_
  show zres (if (99 : Nat) = 99 ∧ 3 ≤ ((.int x2 :: .int x1 :: .int x0 :: st) : List Value).length then zcall 100 [.int x0, .int x1, .int x2] st 106 14 ls w else none) = _
  rw [if_pos ⟨rfl, by simp⟩]
  exact zq_call hr (Nat.le_of_ble_eq_true rfl) rfl rfl
theorem e106_17 (ls : List Value) (a : Int32) (st : List Value) (w : zH) : zrun none (106, 17, ls, (.int a :: st), w) = if a = 0 then zrun none (106, 24, ls, st, w) else zrun none (106, 20, ls, st, w) := (zE_ (i := .ifCond .eq 7) (by decide +kernel) _ _ _).trans (zq_if_eq rfl rfl)
theorem e106_20 (ls st : List Value) (w : zH) : zrun none (106, 20, ls, st, w) = zrun none (106, 21, ls, (.int 1 :: st), w) := (zE_ (i := .iconst 1) (by decide +kernel) _ _ _).trans rfl
theorem e106_21 (ls st : List Value) (w : zH) : zrun none (106, 21, ls, st, w) = zrun none (106, 25, ls, st, w) := (zE_ (i := .goto 4) (by decide +kernel) _ _ _).trans rfl
theorem e106_24 (ls st : List Value) (w : zH) : zrun none (106, 24, ls, st, w) = zrun none (106, 25, ls, (.int 0 :: st), w) := (zE_ (i := .iconst 0) (by decide +kernel) _ _ _).trans rfl
theorem e106_25 (ls : List Value) (x : Int32) (w : zH) (h : narrow .boolean (.int x) = .int x) : zrun none (106, 25, ls, [.int x], w) = some (some (.int x), w) := by
  refine (zE_ (i := .ireturn) (by decide +kernel) _ _ _).trans ?_
  show zres (if narrow .boolean (.int x) = .int x then _ else none) = _
  rw [if_pos h]
  rfl
theorem e107_0 (v1 : Value) (x : Int32) (st : List Value) (w : zH) : zrun none (107, 0, [.int x, v1], st, w) = zrun none (107, 1, [.int x, v1], (.int x :: st), w) := (zE_ (i := .iload_n 0) (by decide +kernel) _ _ _).trans rfl
theorem e107_1 (v0 : Value) (x : Int32) (st : List Value) (w : zH) : zrun none (107, 1, [v0, .int x], st, w) = zrun none (107, 2, [v0, .int x], (.int x :: st), w) := (zE_ (i := .iload_n 1) (by decide +kernel) _ _ _).trans rfl
theorem e107_2 (ls : List Value) (a b : Int32) (st : List Value) (w : zH) : zrun none (107, 2, ls, (.int b :: .int a :: st), w) = zrun none (107, 3, ls, (.int (a >>> (b &&& 31)) :: st), w) := (zE_ (i := .ishr) (by decide +kernel) _ _ _).trans rfl
theorem e107_3 (ls st : List Value) (w : zH) : zrun none (107, 3, ls, st, w) = zrun none (107, 4, ls, (.int 1 :: st), w) := (zE_ (i := .iconst 1) (by decide +kernel) _ _ _).trans rfl
theorem e107_4 (ls : List Value) (a b : Int32) (st : List Value) (w : zH) : zrun none (107, 4, ls, (.int b :: .int a :: st), w) = zrun none (107, 5, ls, (.int (a &&& b) :: st), w) := (zE_ (i := .iand) (by decide +kernel) _ _ _).trans rfl
theorem e107_5 (ls : List Value) (a : Int32) (st : List Value) (w : zH) : zrun none (107, 5, ls, (.int a :: st), w) = if a = 0 then zrun none (107, 12, ls, st, w) else zrun none (107, 8, ls, st, w) := (zE_ (i := .ifCond .eq 7) (by decide +kernel) _ _ _).trans (zq_if_eq rfl rfl)
theorem e107_8 (ls st : List Value) (w : zH) : zrun none (107, 8, ls, st, w) = zrun none (107, 9, ls, (.int 1 :: st), w) := (zE_ (i := .iconst 1) (by decide +kernel) _ _ _).trans rfl
theorem e107_9 (ls st : List Value) (w : zH) : zrun none (107, 9, ls, st, w) = zrun none (107, 13, ls, st, w) := (zE_ (i := .goto 4) (by decide +kernel) _ _ _).trans rfl
theorem e107_12 (ls st : List Value) (w : zH) : zrun none (107, 12, ls, st, w) = zrun none (107, 13, ls, (.int 0 :: st), w) := (zE_ (i := .iconst 0) (by decide +kernel) _ _ _).trans rfl
theorem e107_13 (ls : List Value) (x : Int32) (w : zH) (h : narrow .boolean (.int x) = .int x) : zrun none (107, 13, ls, [.int x], w) = some (some (.int x), w) := by
  refine (zE_ (i := .ireturn) (by decide +kernel) _ _ _).trans ?_
  show zres (if narrow .boolean (.int x) = .int x then _ else none) = _
  rw [if_pos h]
  rfl
theorem e108_0 (x : Int32) (st : List Value) (w : zH) : zrun none (108, 0, [.int x], st, w) = zrun none (108, 1, [.int x], (.int x :: st), w) := (zE_ (i := .iload_n 0) (by decide +kernel) _ _ _).trans rfl
theorem e108_1 (ls : List Value) (a : Int32) (st : List Value) (w : zH) : zrun none (108, 1, ls, (.int a :: st), w) = if a = 0 then zrun none (108, 8, ls, st, w) else zrun none (108, 4, ls, st, w) := (zE_ (i := .ifCond .eq 7) (by decide +kernel) _ _ _).trans (zq_if_eq rfl rfl)
theorem e108_4 (ls st : List Value) (w : zH) : zrun none (108, 4, ls, st, w) = zrun none (108, 5, ls, (.int 1 :: st), w) := (zE_ (i := .iconst 1) (by decide +kernel) _ _ _).trans rfl
theorem e108_5 (ls st : List Value) (w : zH) : zrun none (108, 5, ls, st, w) = zrun none (108, 9, ls, st, w) := (zE_ (i := .goto 4) (by decide +kernel) _ _ _).trans rfl
theorem e108_8 (ls st : List Value) (w : zH) : zrun none (108, 8, ls, st, w) = zrun none (108, 9, ls, (.int 0 :: st), w) := (zE_ (i := .iconst 0) (by decide +kernel) _ _ _).trans rfl
theorem e108_9 (ls : List Value) (x : Int32) (w : zH) : zrun none (108, 9, ls, [.int x], w) = some (some (.int x), w) := by
  refine (zE_ (i := .ireturn) (by decide +kernel) _ _ _).trans ?_
  show zres (if narrow .int (.int x) = .int x then _ else none) = _
  rw [if_pos (show narrow .int (.int x) = .int x from rfl)]
  rfl
theorem e109_0 (ls st : List Value) (w : zH) : zrun none (109, 0, ls, st, w) = zrun none (109, 3, ls, (.int 1700 :: st), w) := (zE_ (i := .sipush 1700) (by decide +kernel) _ _ _).trans rfl
theorem e109_3 (x : Int32) (st : List Value) (w : zH) : zrun none (109, 3, [.int x], st, w) = zrun none (109, 4, [.int x], (.int x :: st), w) := (zE_ (i := .iload_n 0) (by decide +kernel) _ _ _).trans rfl
theorem e109_4 (ls st : List Value) (w : zH) : zrun none (109, 4, ls, st, w) = zrun none (109, 7, ls, (.int 365 :: st), w) := (zE_ (i := .sipush 365) (by decide +kernel) _ _ _).trans rfl
theorem e109_7 (ls : List Value) (a b : Int32) (st : List Value) (w : zH) (h : ¬ b = 0) : zrun none (109, 7, ls, (.int b :: .int a :: st), w) = zrun none (109, 8, ls, (.int (a / b) :: st), w) := by
  refine (zE_ (i := .idiv) (by decide +kernel) _ _ _).trans ?_
  simp only [zI, if_neg h]
  rfl
theorem e109_8 (ls : List Value) (a b : Int32) (st : List Value) (w : zH) : zrun none (109, 8, ls, (.int b :: .int a :: st), w) = zrun none (109, 9, ls, (.int (a + b) :: st), w) := (zE_ (i := .iadd) (by decide +kernel) _ _ _).trans rfl
theorem e109_9 (ls : List Value) (x : Int32) (w : zH) : zrun none (109, 9, ls, [.int x], w) = some (some (.int x), w) := by
  refine (zE_ (i := .ireturn) (by decide +kernel) _ _ _).trans ?_
  show zres (if narrow .int (.int x) = .int x then _ else none) = _
  rw [if_pos (show narrow .int (.int x) = .int x from rfl)]
  rfl
theorem e110_0 (v0 : Value) (x : Int32) (st : List Value) (w : zH) : zrun none (110, 0, [v0, .int x], st, w) = zrun none (110, 1, [v0, .int x], (.int x :: st), w) := (zE_ (i := .iload_n 1) (by decide +kernel) _ _ _).trans rfl
theorem e110_1 (ls st : List Value) (w : zH) : zrun none (110, 1, ls, st, w) = zrun none (110, 2, ls, (.int 0 :: st), w) := (zE_ (i := .iconst 0) (by decide +kernel) _ _ _).trans rfl
theorem e110_2 (ls st : List Value) (w : zH) : zrun none (110, 2, ls, st, w) = zrun none (110, 4, ls, (.int 7 :: st), w) := (zE_ (i := .bipush 7) (by decide +kernel) _ _ _).trans rfl
theorem e110_4 (ls : List Value) (x0 : Int32) (x1 : Int32) (x2 : Int32) (st : List Value) (w : zH) (hr : zcat st ≤ 8) : zrun none (110, 4, ls, (.int x2 :: .int x1 :: .int x0 :: st), w) = zcl (zrun none (100, 0, [.int x0, .int x1, .int x2], [], w)) (fun r => zrun none (110, 7, ls, r.1.toList ++ st, r.2)) := by
  refine (zE_ (i := .invokestatic 100) (by decide +kernel) _ _ _).trans ?_
  show zres (if (99 : Nat) = 99 ∧ 3 ≤ ((.int x2 :: .int x1 :: .int x0 :: st) : List Value).length then zcall 100 [.int x0, .int x1, .int x2] st 110 4 ls w else none) = _
  rw [if_pos ⟨rfl, by simp⟩]
  exact zq_call hr (Nat.le_of_ble_eq_true rfl) rfl rfl
theorem e110_7 (ls : List Value) (a : Int32) (st : List Value) (w : zH) : zrun none (110, 7, ls, (.int a :: st), w) = if a = 0 then zrun none (110, 19, ls, st, w) else zrun none (110, 10, ls, st, w) := (zE_ (i := .ifCond .eq 12) (by decide +kernel) _ _ _).trans (zq_if_eq rfl rfl)
theorem e110_10 (v1 : Value) (x : Nat) (st : List Value) (w : zH) : zrun none (110, 10, [.ref x, v1], st, w) = zrun none (110, 11, [.ref x, v1], (.ref x :: st), w) := (zE_ (i := .aload_n 0) (by decide +kernel) _ _ _).trans rfl
theorem e110_11 (ls : List Value) (a : Nat) (st : List Value) (w : zH) : zrun none (110, 11, ls, (.ref a :: st), w) = zo (zf w a 1100) (fun x => zrun none (110, 14, ls, (x :: st), w)) := (zE_ (i := .getfield 1100) (by decide +kernel) _ _ _).trans zq_getf
theorem e110_14 (v0 : Value) (x : Int32) (st : List Value) (w : zH) : zrun none (110, 14, [v0, .int x], st, w) = zrun none (110, 15, [v0, .int x], (.int x :: st), w) := (zE_ (i := .iload_n 1) (by decide +kernel) _ _ _).trans rfl
theorem e110_15 (ls : List Value) (j : Int32) (a : Nat) (st : List Value) (w : zH) : zrun none (110, 15, ls, (.int j :: .ref a :: st), w) = zo (zaa w a j) (fun x => zrun none (110, 16, ls, (x :: st), w)) := (zE_ (i := .aaload) (by decide +kernel) _ _ _).trans zq_aald
theorem e110_16 (ls st : List Value) (w : zH) : zrun none (110, 16, ls, st, w) = zrun none (110, 20, ls, st, w) := (zE_ (i := .goto 4) (by decide +kernel) _ _ _).trans rfl
theorem e110_19 (ls st : List Value) (w : zH) : zrun none (110, 19, ls, st, w) = zrun none (110, 20, ls, (.null :: st), w) := (zE_ (i := .aconst_null) (by decide +kernel) _ _ _).trans rfl
theorem e110_20 (ls : List Value) (x : Nat) (w : zH) : zrun none (110, 20, ls, [.ref x], w) = some (some (.ref x), w) := (zE_ (i := .areturn) (by decide +kernel) _ _ _).trans rfl
theorem e110_20n (ls : List Value) (w : zH) : zrun none (110, 20, ls, [.null], w) = some (some (.null), w) := (zE_ (i := .areturn) (by decide +kernel) _ _ _).trans rfl
theorem e111_0 (v0 : Value) (x : Int32) (st : List Value) (w : zH) : zrun none (111, 0, [v0, .int x], st, w) = zrun none (111, 1, [v0, .int x], (.int x :: st), w) := (zE_ (i := .iload_n 1) (by decide +kernel) _ _ _).trans rfl
theorem e111_1 (ls : List Value) (a : Int32) (st : List Value) (w : zH) : zrun none (111, 1, ls, (.int a :: st), w) = if a < 0 then zrun none (111, 27, ls, st, w) else zrun none (111, 4, ls, st, w) := (zE_ (i := .ifCond .lt 26) (by decide +kernel) _ _ _).trans (zq_if_lt rfl rfl)
theorem e111_4 (v0 : Value) (x : Int32) (st : List Value) (w : zH) : zrun none (111, 4, [v0, .int x], st, w) = zrun none (111, 5, [v0, .int x], (.int x :: st), w) := (zE_ (i := .iload_n 1) (by decide +kernel) _ _ _).trans rfl
theorem e111_5 (v1 : Value) (x : Nat) (st : List Value) (w : zH) : zrun none (111, 5, [.ref x, v1], st, w) = zrun none (111, 6, [.ref x, v1], (.ref x :: st), w) := (zE_ (i := .aload_n 0) (by decide +kernel) _ _ _).trans rfl
theorem e111_6 (ls : List Value) (a : Nat) (st : List Value) (w : zH) : zrun none (111, 6, ls, (.ref a :: st), w) = zo (zf w a 1103) (fun x => zrun none (111, 9, ls, (x :: st), w)) := (zE_ (i := .getfield 1103) (by decide +kernel) _ _ _).trans zq_getf
theorem e111_9 (ls : List Value) (a b : Int32) (st : List Value) (w : zH) : zrun none (111, 9, ls, (.int b :: .int a :: st), w) = if b ≤ a then zrun none (111, 27, ls, st, w) else zrun none (111, 12, ls, st, w) := (zE_ (i := .if_icmp .ge 18) (by decide +kernel) _ _ _).trans (zq_ic_ge rfl rfl)
theorem e111_12 (v0 : Value) (x : Int32) (st : List Value) (w : zH) : zrun none (111, 12, [v0, .int x], st, w) = zrun none (111, 13, [v0, .int x], (.int x :: st), w) := (zE_ (i := .iload_n 1) (by decide +kernel) _ _ _).trans rfl
theorem e111_13 (ls st : List Value) (w : zH) : zrun none (111, 13, ls, st, w) = zrun none (111, 15, ls, (.int 16 :: st), w) := (zE_ (i := .bipush 16) (by decide +kernel) _ _ _).trans rfl
theorem e111_15 (ls : List Value) (a b : Int32) (st : List Value) (w : zH) : zrun none (111, 15, ls, (.int b :: .int a :: st), w) = if b ≤ a then zrun none (111, 27, ls, st, w) else zrun none (111, 18, ls, st, w) := (zE_ (i := .if_icmp .ge 12) (by decide +kernel) _ _ _).trans (zq_ic_ge rfl rfl)
theorem e111_18 (v1 : Value) (x : Nat) (st : List Value) (w : zH) : zrun none (111, 18, [.ref x, v1], st, w) = zrun none (111, 19, [.ref x, v1], (.ref x :: st), w) := (zE_ (i := .aload_n 0) (by decide +kernel) _ _ _).trans rfl
theorem e111_19 (ls : List Value) (a : Nat) (st : List Value) (w : zH) : zrun none (111, 19, ls, (.ref a :: st), w) = zo (zf w a 1102) (fun x => zrun none (111, 22, ls, (x :: st), w)) := (zE_ (i := .getfield 1102) (by decide +kernel) _ _ _).trans zq_getf
theorem e111_22 (v0 : Value) (x : Int32) (st : List Value) (w : zH) : zrun none (111, 22, [v0, .int x], st, w) = zrun none (111, 23, [v0, .int x], (.int x :: st), w) := (zE_ (i := .iload_n 1) (by decide +kernel) _ _ _).trans rfl
theorem e111_23 (ls : List Value) (j : Int32) (a : Nat) (st : List Value) (w : zH) : zrun none (111, 23, ls, (.int j :: .ref a :: st), w) = zo (zaa w a j) (fun x => zrun none (111, 24, ls, (x :: st), w)) := (zE_ (i := .aaload) (by decide +kernel) _ _ _).trans zq_aald
theorem e111_24 (ls st : List Value) (w : zH) : zrun none (111, 24, ls, st, w) = zrun none (111, 28, ls, st, w) := (zE_ (i := .goto 4) (by decide +kernel) _ _ _).trans rfl
theorem e111_27 (ls st : List Value) (w : zH) : zrun none (111, 27, ls, st, w) = zrun none (111, 28, ls, (.null :: st), w) := (zE_ (i := .aconst_null) (by decide +kernel) _ _ _).trans rfl
theorem e111_28 (ls : List Value) (x : Nat) (w : zH) : zrun none (111, 28, ls, [.ref x], w) = some (some (.ref x), w) := (zE_ (i := .areturn) (by decide +kernel) _ _ _).trans rfl
theorem e111_28n (ls : List Value) (w : zH) : zrun none (111, 28, ls, [.null], w) = some (some (.null), w) := (zE_ (i := .areturn) (by decide +kernel) _ _ _).trans rfl
theorem e112_0 (v0 : Value) (x : Int32) (st : List Value) (w : zH) : zrun none (112, 0, [v0, .int x], st, w) = zrun none (112, 1, [v0, .int x], (.int x :: st), w) := (zE_ (i := .iload_n 1) (by decide +kernel) _ _ _).trans rfl
theorem e112_1 (ls : List Value) (a : Int32) (st : List Value) (w : zH) : zrun none (112, 1, ls, (.int a :: st), w) = if a < 0 then zrun none (112, 27, ls, st, w) else zrun none (112, 4, ls, st, w) := (zE_ (i := .ifCond .lt 26) (by decide +kernel) _ _ _).trans (zq_if_lt rfl rfl)
theorem e112_4 (v0 : Value) (x : Int32) (st : List Value) (w : zH) : zrun none (112, 4, [v0, .int x], st, w) = zrun none (112, 5, [v0, .int x], (.int x :: st), w) := (zE_ (i := .iload_n 1) (by decide +kernel) _ _ _).trans rfl
theorem e112_5 (v1 : Value) (x : Nat) (st : List Value) (w : zH) : zrun none (112, 5, [.ref x, v1], st, w) = zrun none (112, 6, [.ref x, v1], (.ref x :: st), w) := (zE_ (i := .aload_n 0) (by decide +kernel) _ _ _).trans rfl
theorem e112_6 (ls : List Value) (a : Nat) (st : List Value) (w : zH) : zrun none (112, 6, ls, (.ref a :: st), w) = zo (zf w a 1109) (fun x => zrun none (112, 9, ls, (x :: st), w)) := (zE_ (i := .getfield 1109) (by decide +kernel) _ _ _).trans zq_getf
theorem e112_9 (ls : List Value) (a b : Int32) (st : List Value) (w : zH) : zrun none (112, 9, ls, (.int b :: .int a :: st), w) = if b ≤ a then zrun none (112, 27, ls, st, w) else zrun none (112, 12, ls, st, w) := (zE_ (i := .if_icmp .ge 18) (by decide +kernel) _ _ _).trans (zq_ic_ge rfl rfl)
theorem e112_12 (v0 : Value) (x : Int32) (st : List Value) (w : zH) : zrun none (112, 12, [v0, .int x], st, w) = zrun none (112, 13, [v0, .int x], (.int x :: st), w) := (zE_ (i := .iload_n 1) (by decide +kernel) _ _ _).trans rfl
theorem e112_13 (ls st : List Value) (w : zH) : zrun none (112, 13, ls, st, w) = zrun none (112, 15, ls, (.int 10 :: st), w) := (zE_ (i := .bipush 10) (by decide +kernel) _ _ _).trans rfl
theorem e112_15 (ls : List Value) (a b : Int32) (st : List Value) (w : zH) : zrun none (112, 15, ls, (.int b :: .int a :: st), w) = if b ≤ a then zrun none (112, 27, ls, st, w) else zrun none (112, 18, ls, st, w) := (zE_ (i := .if_icmp .ge 12) (by decide +kernel) _ _ _).trans (zq_ic_ge rfl rfl)
theorem e112_18 (v1 : Value) (x : Nat) (st : List Value) (w : zH) : zrun none (112, 18, [.ref x, v1], st, w) = zrun none (112, 19, [.ref x, v1], (.ref x :: st), w) := (zE_ (i := .aload_n 0) (by decide +kernel) _ _ _).trans rfl
theorem e112_19 (ls : List Value) (a : Nat) (st : List Value) (w : zH) : zrun none (112, 19, ls, (.ref a :: st), w) = zo (zf w a 1108) (fun x => zrun none (112, 22, ls, (x :: st), w)) := (zE_ (i := .getfield 1108) (by decide +kernel) _ _ _).trans zq_getf
theorem e112_22 (v0 : Value) (x : Int32) (st : List Value) (w : zH) : zrun none (112, 22, [v0, .int x], st, w) = zrun none (112, 23, [v0, .int x], (.int x :: st), w) := (zE_ (i := .iload_n 1) (by decide +kernel) _ _ _).trans rfl
theorem e112_23 (ls : List Value) (j : Int32) (a : Nat) (st : List Value) (w : zH) : zrun none (112, 23, ls, (.int j :: .ref a :: st), w) = zo (zaa w a j) (fun x => zrun none (112, 24, ls, (x :: st), w)) := (zE_ (i := .aaload) (by decide +kernel) _ _ _).trans zq_aald
theorem e112_24 (ls st : List Value) (w : zH) : zrun none (112, 24, ls, st, w) = zrun none (112, 28, ls, st, w) := (zE_ (i := .goto 4) (by decide +kernel) _ _ _).trans rfl
theorem e112_27 (ls st : List Value) (w : zH) : zrun none (112, 27, ls, st, w) = zrun none (112, 28, ls, (.null :: st), w) := (zE_ (i := .aconst_null) (by decide +kernel) _ _ _).trans rfl
theorem e112_28 (ls : List Value) (x : Nat) (w : zH) : zrun none (112, 28, ls, [.ref x], w) = some (some (.ref x), w) := (zE_ (i := .areturn) (by decide +kernel) _ _ _).trans rfl
theorem e112_28n (ls : List Value) (w : zH) : zrun none (112, 28, ls, [.null], w) = some (some (.null), w) := (zE_ (i := .areturn) (by decide +kernel) _ _ _).trans rfl
theorem e113_0 (v0 : Value) (x : Int32) (st : List Value) (w : zH) : zrun none (113, 0, [v0, .int x], st, w) = zrun none (113, 1, [v0, .int x], (.int x :: st), w) := (zE_ (i := .iload_n 1) (by decide +kernel) _ _ _).trans rfl
theorem e113_1 (ls : List Value) (a : Int32) (st : List Value) (w : zH) : zrun none (113, 1, ls, (.int a :: st), w) = if a < 0 then zrun none (113, 27, ls, st, w) else zrun none (113, 4, ls, st, w) := (zE_ (i := .ifCond .lt 26) (by decide +kernel) _ _ _).trans (zq_if_lt rfl rfl)
theorem e113_4 (v0 : Value) (x : Int32) (st : List Value) (w : zH) : zrun none (113, 4, [v0, .int x], st, w) = zrun none (113, 5, [v0, .int x], (.int x :: st), w) := (zE_ (i := .iload_n 1) (by decide +kernel) _ _ _).trans rfl
theorem e113_5 (v1 : Value) (x : Nat) (st : List Value) (w : zH) : zrun none (113, 5, [.ref x, v1], st, w) = zrun none (113, 6, [.ref x, v1], (.ref x :: st), w) := (zE_ (i := .aload_n 0) (by decide +kernel) _ _ _).trans rfl
theorem e113_6 (ls : List Value) (a : Nat) (st : List Value) (w : zH) : zrun none (113, 6, ls, (.ref a :: st), w) = zo (zf w a 1112) (fun x => zrun none (113, 9, ls, (x :: st), w)) := (zE_ (i := .getfield 1112) (by decide +kernel) _ _ _).trans zq_getf
theorem e113_9 (ls : List Value) (a b : Int32) (st : List Value) (w : zH) : zrun none (113, 9, ls, (.int b :: .int a :: st), w) = if b ≤ a then zrun none (113, 27, ls, st, w) else zrun none (113, 12, ls, st, w) := (zE_ (i := .if_icmp .ge 18) (by decide +kernel) _ _ _).trans (zq_ic_ge rfl rfl)
theorem e113_12 (v0 : Value) (x : Int32) (st : List Value) (w : zH) : zrun none (113, 12, [v0, .int x], st, w) = zrun none (113, 13, [v0, .int x], (.int x :: st), w) := (zE_ (i := .iload_n 1) (by decide +kernel) _ _ _).trans rfl
theorem e113_13 (ls st : List Value) (w : zH) : zrun none (113, 13, ls, st, w) = zrun none (113, 15, ls, (.int 20 :: st), w) := (zE_ (i := .bipush 20) (by decide +kernel) _ _ _).trans rfl
theorem e113_15 (ls : List Value) (a b : Int32) (st : List Value) (w : zH) : zrun none (113, 15, ls, (.int b :: .int a :: st), w) = if b ≤ a then zrun none (113, 27, ls, st, w) else zrun none (113, 18, ls, st, w) := (zE_ (i := .if_icmp .ge 12) (by decide +kernel) _ _ _).trans (zq_ic_ge rfl rfl)
theorem e113_18 (v1 : Value) (x : Nat) (st : List Value) (w : zH) : zrun none (113, 18, [.ref x, v1], st, w) = zrun none (113, 19, [.ref x, v1], (.ref x :: st), w) := (zE_ (i := .aload_n 0) (by decide +kernel) _ _ _).trans rfl
theorem e113_19 (ls : List Value) (a : Nat) (st : List Value) (w : zH) : zrun none (113, 19, ls, (.ref a :: st), w) = zo (zf w a 1111) (fun x => zrun none (113, 22, ls, (x :: st), w)) := (zE_ (i := .getfield 1111) (by decide +kernel) _ _ _).trans zq_getf
theorem e113_22 (v0 : Value) (x : Int32) (st : List Value) (w : zH) : zrun none (113, 22, [v0, .int x], st, w) = zrun none (113, 23, [v0, .int x], (.int x :: st), w) := (zE_ (i := .iload_n 1) (by decide +kernel) _ _ _).trans rfl
theorem e113_23 (ls : List Value) (j : Int32) (a : Nat) (st : List Value) (w : zH) : zrun none (113, 23, ls, (.int j :: .ref a :: st), w) = zo (zaa w a j) (fun x => zrun none (113, 24, ls, (x :: st), w)) := (zE_ (i := .aaload) (by decide +kernel) _ _ _).trans zq_aald
theorem e113_24 (ls st : List Value) (w : zH) : zrun none (113, 24, ls, st, w) = zrun none (113, 28, ls, st, w) := (zE_ (i := .goto 4) (by decide +kernel) _ _ _).trans rfl
theorem e113_27 (ls st : List Value) (w : zH) : zrun none (113, 27, ls, st, w) = zrun none (113, 28, ls, (.null :: st), w) := (zE_ (i := .aconst_null) (by decide +kernel) _ _ _).trans rfl
theorem e113_28 (ls : List Value) (x : Nat) (w : zH) : zrun none (113, 28, ls, [.ref x], w) = some (some (.ref x), w) := (zE_ (i := .areturn) (by decide +kernel) _ _ _).trans rfl
theorem e113_28n (ls : List Value) (w : zH) : zrun none (113, 28, ls, [.null], w) = some (some (.null), w) := (zE_ (i := .areturn) (by decide +kernel) _ _ _).trans rfl
theorem e114_0 (v1 : Value) (x : Nat) (st : List Value) (w : zH) : zrun none (114, 0, [.ref x, v1], st, w) = zrun none (114, 1, [.ref x, v1], (.ref x :: st), w) := (zE_ (i := .aload_n 0) (by decide +kernel) _ _ _).trans rfl
theorem e114_1 (v0 : Value) (x : Int32) (st : List Value) (w : zH) : zrun none (114, 1, [v0, .int x], st, w) = zrun none (114, 2, [v0, .int x], (.int x :: st), w) := (zE_ (i := .iload_n 1) (by decide +kernel) _ _ _).trans rfl
theorem e114_2 (ls : List Value) (x : Int32) (a : Nat) (st : List Value) (w : zH) : zrun none (114, 2, ls, (.int x :: .ref a :: st), w) = zgd (a < zX ∧ (zf w a 1119).isSome = true) (zrun none (114, 5, ls, st, zpf w a 1119 (.int x))) := by
  refine (zE_ (i := .putfield 1119) (by decide +kernel) _ _ _).trans ?_
  by_cases hg : a < zX ∧ (zf w a 1119).isSome = true
  · rw [zgd_pos hg]
    obtain ⟨ha, h⟩ := hg
    exact zq_putf ha h rfl rfl
  · rw [zgd_neg hg]
    exact zq_putf_no (fun h1 h2 h3 => hg ⟨h1, h2⟩)
theorem e114_5 (ls st : List Value) (w : zH) : zrun none (114, 5, ls, st, w) = zrun none (114, 8, ls, (.int (-1000010) :: st), w) := (zE_ (i := .sipush (-1000010)) (by decide +kernel) _ _ _).trans rfl
theorem e114_8 (v0 : Value) (x : Int32) (st : List Value) (w : zH) : zrun none (114, 8, [v0, .int x], st, w) = zrun none (114, 9, [v0, .int x], (.int x :: st), w) := (zE_ (i := .iload_n 1) (by decide +kernel) _ _ _).trans rfl
theorem e114_9 (ls : List Value) (a b : Int32) (st : List Value) (w : zH) : zrun none (114, 9, ls, (.int b :: .int a :: st), w) = zrun none (114, 10, ls, (.int (a - b) :: st), w) := (zE_ (i := .isub) (by decide +kernel) _ _ _).trans rfl
theorem e114_10 (ls : List Value) (x : Int32) (w : zH) : zrun none (114, 10, ls, [.int x], w) = some (some (.int x), w) := by
  refine (zE_ (i := .ireturn) (by decide +kernel) _ _ _).trans ?_
  show zres (if narrow .int (.int x) = .int x then _ else none) = _
  rw [if_pos (show narrow .int (.int x) = .int x from rfl)]
  rfl
theorem e115_0 (v1 : Value) (x : Nat) (st : List Value) (w : zH) : zrun none (115, 0, [.ref x, v1], st, w) = zrun none (115, 1, [.ref x, v1], (.ref x :: st), w) := (zE_ (i := .aload_n 0) (by decide +kernel) _ _ _).trans rfl
theorem e115_1 (ls st : List Value) (w : zH) : zrun none (115, 1, ls, st, w) = zrun none (115, 2, ls, (.int 0 :: st), w) := (zE_ (i := .iconst 0) (by decide +kernel) _ _ _).trans rfl
theorem e115_2 (ls : List Value) (x : Int32) (a : Nat) (st : List Value) (w : zH) : zrun none (115, 2, ls, (.int x :: .ref a :: st), w) = zgd (a < zX ∧ (zf w a 1119).isSome = true) (zrun none (115, 5, ls, st, zpf w a 1119 (.int x))) := by
  refine (zE_ (i := .putfield 1119) (by decide +kernel) _ _ _).trans ?_
  by_cases hg : a < zX ∧ (zf w a 1119).isSome = true
  · rw [zgd_pos hg]
    obtain ⟨ha, h⟩ := hg
    exact zq_putf ha h rfl rfl
  · rw [zgd_neg hg]
    exact zq_putf_no (fun h1 h2 h3 => hg ⟨h1, h2⟩)
theorem e115_5 (v0 : Value) (x : Int32) (st : List Value) (w : zH) : zrun none (115, 5, [v0, .int x], st, w) = zrun none (115, 6, [v0, .int x], (.int x :: st), w) := (zE_ (i := .iload_n 1) (by decide +kernel) _ _ _).trans rfl
theorem e115_6 (ls : List Value) (x : Int32) (w : zH) : zrun none (115, 6, ls, [.int x], w) = some (some (.int x), w) := by
  refine (zE_ (i := .ireturn) (by decide +kernel) _ _ _).trans ?_
  show zres (if narrow .int (.int x) = .int x then _ else none) = _
  rw [if_pos (show narrow .int (.int x) = .int x from rfl)]
  rfl
theorem e116_0 (v1 v2 : Value) (x : Nat) (st : List Value) (w : zH) : zrun none (116, 0, [.ref x, v1, v2], st, w) = zrun none (116, 1, [.ref x, v1, v2], (.ref x :: st), w) := (zE_ (i := .aload_n 0) (by decide +kernel) _ _ _).trans rfl
theorem e116_1 (ls : List Value) (a : Nat) (st : List Value) (w : zH) : zrun none (116, 1, ls, (.ref a :: st), w) = zo (zf w a 1101) (fun x => zrun none (116, 4, ls, (x :: st), w)) := (zE_ (i := .getfield 1101) (by decide +kernel) _ _ _).trans zq_getf
theorem e116_4 (v0 v2 : Value) (x : Nat) (st : List Value) (w : zH) : zrun none (116, 4, [v0, .ref x, v2], st, w) = zrun none (116, 5, [v0, .ref x, v2], (.ref x :: st), w) := (zE_ (i := .aload_n 1) (by decide +kernel) _ _ _).trans rfl
theorem e116_4n (v0 v2 : Value) (st : List Value) (w : zH) : zrun none (116, 4, [v0, .null, v2], st, w) = zrun none (116, 5, [v0, .null, v2], (.null :: st), w) := (zE_ (i := .aload_n 1) (by decide +kernel) _ _ _).trans rfl
theorem e116_5 (ls : List Value) (a : Nat) (st : List Value) (w : zH) : zrun none (116, 5, ls, (.ref a :: st), w) = zo (zf w a 700) (fun x => zrun none (116, 8, ls, (x :: st), w)) := (zE_ (i := .getfield 700) (by decide +kernel) _ _ _).trans zq_getf
theorem e116_8 (v0 v1 : Value) (x : Int32) (st : List Value) (w : zH) : zrun none (116, 8, [v0, v1, .int x], st, w) = zrun none (116, 9, [v0, v1, .int x], (.int x :: st), w) := (zE_ (i := .iload_n 2) (by decide +kernel) _ _ _).trans rfl
theorem e116_9 (v0 v1 : Value) (x : Int32) (st : List Value) (w : zH) : zrun none (116, 9, [v0, v1, .int x], st, w) = zrun none (116, 10, [v0, v1, .int x], (.int x :: st), w) := (zE_ (i := .iload_n 2) (by decide +kernel) _ _ _).trans rfl
theorem e116_10 (ls : List Value) (a : Nat) (x0 : Int32) (x1 : Int32) (x2 : Int32) (st : List Value) (w : zH) (hr : zcat st ≤ 8) : zrun none (116, 10, ls, (.int x2 :: .int x1 :: .int x0 :: .ref a :: st), w) = zgd (zis w a 3) (zcl (zrun none (17, 0, [.ref a, .int x0, .int x1, .int x2, zJ, zJ, zJ, zJ], [], w)) (fun r => zrun none (116, 13, ls, r.1.toList ++ st, r.2))) := by
  refine (zE_ (i := .invokevirtual 17) (by decide +kernel) _ _ _).trans ?_
  show zres (zinv none 17 116 10 ls (.int x2 :: .int x1 :: .int x0 :: .ref a :: st) w) = _
  unfold zinv
  show zres (if zrc none 17 w (.ref a) = true then zcall 17 [.ref a, .int x0, .int x1, .int x2] st 116 10 ls w else none) = _
  by_cases hc : zis w a 3
  · rw [if_pos (zrc_is hc (by decide +kernel)), zgd_pos hc]
    exact zq_call hr (Nat.le_of_ble_eq_true rfl) rfl rfl
  · rw [zgd_neg hc, if_neg (fun q => hc (zrc_of q (by decide +kernel)))]
    rfl
theorem e116_13 (ls : List Value) (x : Int32) (w : zH) : zrun none (116, 13, ls, [.int x], w) = some (some (.int x), w) := by
  refine (zE_ (i := .ireturn) (by decide +kernel) _ _ _).trans ?_
  show zres (if narrow .int (.int x) = .int x then _ else none) = _
  rw [if_pos (show narrow .int (.int x) = .int x from rfl)]
  rfl
theorem e117_0 (v1 v2 v3 v4 : Value) (x : Nat) (st : List Value) (w : zH) : zrun none (117, 0, [.ref x, v1, v2, v3, v4], st, w) = zrun none (117, 1, [.ref x, v1, v2, v3, v4], (.ref x :: st), w) := (zE_ (i := .aload_n 0) (by decide +kernel) _ _ _).trans rfl
theorem e117_1 (v0 v2 v3 v4 : Value) (x : Nat) (st : List Value) (w : zH) : zrun none (117, 1, [v0, .ref x, v2, v3, v4], st, w) = zrun none (117, 2, [v0, .ref x, v2, v3, v4], (.ref x :: st), w) := (zE_ (i := .aload_n 1) (by decide +kernel) _ _ _).trans rfl
theorem e117_1n (v0 v2 v3 v4 : Value) (st : List Value) (w : zH) : zrun none (117, 1, [v0, .null, v2, v3, v4], st, w) = zrun none (117, 2, [v0, .null, v2, v3, v4], (.null :: st), w) := (zE_ (i := .aload_n 1) (by decide +kernel) _ _ _).trans rfl
theorem e117_2 (v0 v1 v3 v4 : Value) (x : Int32) (st : List Value) (w : zH) : zrun none (117, 2, [v0, v1, .int x, v3, v4], st, w) = zrun none (117, 3, [v0, v1, .int x, v3, v4], (.int x :: st), w) := (zE_ (i := .iload_n 2) (by decide +kernel) _ _ _).trans rfl
theorem e117_3 (ls : List Value) (a : Nat) (x0 : Nat) (x1 : Int32) (st : List Value) (w : zH) (hr : zcat st ≤ 8) : zrun none (117, 3, ls, (.int x1 :: .ref x0 :: .ref a :: st), w) = zgd (zis w a 11) (zcl (zrun none (116, 0, [.ref a, .ref x0, .int x1], [], w)) (fun r => zrun none (117, 6, ls, r.1.toList ++ st, r.2))) := by
  refine (zE_ (i := .invokevirtual 116) (by decide +kernel) _ _ _).trans ?_
  show zres (zinv none 116 117 3 ls (.int x1 :: .ref x0 :: .ref a :: st) w) = _
  unfold zinv
  show zres (if zrc none 116 w (.ref a) = true then zcall 116 [.ref a, .ref x0, .int x1] st 117 3 ls w else none) = _
  by_cases hc : zis w a 11
  · rw [if_pos (zrc_is hc (by decide +kernel)), zgd_pos hc]
    exact zq_call hr (Nat.le_of_ble_eq_true rfl) rfl rfl
  · rw [zgd_neg hc, if_neg (fun q => hc (zrc_of q (by decide +kernel)))]
    rfl
theorem e117_6 (v0 v1 v2 v3 v4 : Value) (x : Int32) (st : List Value) (w : zH) (h : v2.category = 1) : zrun none (117, 6, [v0, v1, v2, v3, v4], (.int x :: st), w) = zrun none (117, 7, [v0, v1, v2, .int x, v4], st, w) := by
  refine (zE_ (i := .istore_n 3) (by decide +kernel) _ _ _).trans ?_
  have hz : zfree [v0, v1, v2, v3, v4] 3 = true := by show decide (v2.category = 1) = true; exact decide_eq_true h
  show zres (zst zint 3 1 117 6 [v0, v1, v2, v3, v4] (.int x :: st) w) = _
  unfold zst
  dsimp only
  rw [if_pos ⟨rfl, Nat.le_of_ble_eq_true rfl, hz⟩]
  rfl
theorem e117_7 (v0 v2 v3 v4 : Value) (x : Nat) (st : List Value) (w : zH) : zrun none (117, 7, [v0, .ref x, v2, v3, v4], st, w) = zrun none (117, 8, [v0, .ref x, v2, v3, v4], (.ref x :: st), w) := (zE_ (i := .aload_n 1) (by decide +kernel) _ _ _).trans rfl
theorem e117_7n (v0 v2 v3 v4 : Value) (st : List Value) (w : zH) : zrun none (117, 7, [v0, .null, v2, v3, v4], st, w) = zrun none (117, 8, [v0, .null, v2, v3, v4], (.null :: st), w) := (zE_ (i := .aload_n 1) (by decide +kernel) _ _ _).trans rfl
theorem e117_8 (v0 v1 v3 v4 : Value) (x : Int32) (st : List Value) (w : zH) : zrun none (117, 8, [v0, v1, .int x, v3, v4], st, w) = zrun none (117, 9, [v0, v1, .int x, v3, v4], (.int x :: st), w) := (zE_ (i := .iload_n 2) (by decide +kernel) _ _ _).trans rfl
theorem e117_9 (ls : List Value) (a : Nat) (x0 : Int32) (st : List Value) (w : zH) (hr : zcat st ≤ 8) : zrun none (117, 9, ls, (.int x0 :: .ref a :: st), w) = zgd (zis w a 7) (zcl (zrun none (33, 0, [.ref a, .int x0], [], w)) (fun r => zrun none (117, 12, ls, r.1.toList ++ st, r.2))) := by
  refine (zE_ (i := .invokevirtual 33) (by decide +kernel) _ _ _).trans ?_
  show zres (zinv none 33 117 9 ls (.int x0 :: .ref a :: st) w) = _
  unfold zinv
  show zres (if zrc none 33 w (.ref a) = true then zcall 33 [.ref a, .int x0] st 117 9 ls w else none) = _
  by_cases hc : zis w a 7
  · rw [if_pos (zrc_is hc (by decide +kernel)), zgd_pos hc]
    exact zq_call hr (Nat.le_of_ble_eq_true rfl) rfl rfl
  · rw [zgd_neg hc, if_neg (fun q => hc (zrc_of q (by decide +kernel)))]
    rfl
theorem e117_12 (v0 v1 v2 v3 v4 : Value) (x : Int32) (st : List Value) (w : zH) (h : v3.category = 1) : zrun none (117, 12, [v0, v1, v2, v3, v4], (.int x :: st), w) = zrun none (117, 14, [v0, v1, v2, v3, .int x], st, w) := by
  refine (zE_ (i := .istore 4) (by decide +kernel) _ _ _).trans ?_
  have hz : zfree [v0, v1, v2, v3, v4] 4 = true := by show decide (v3.category = 1) = true; exact decide_eq_true h
  show zres (zst zint 4 2 117 12 [v0, v1, v2, v3, v4] (.int x :: st) w) = _
  unfold zst
  dsimp only
  rw [if_pos ⟨rfl, Nat.le_of_ble_eq_true rfl, hz⟩]
  rfl
theorem e117_14 (v0 v1 v2 v4 : Value) (x : Int32) (st : List Value) (w : zH) : zrun none (117, 14, [v0, v1, v2, .int x, v4], st, w) = zrun none (117, 15, [v0, v1, v2, .int x, v4], (.int x :: st), w) := (zE_ (i := .iload_n 3) (by decide +kernel) _ _ _).trans rfl
theorem e117_15 (ls : List Value) (a : Int32) (st : List Value) (w : zH) : zrun none (117, 15, ls, (.int a :: st), w) = if a = 0 then zrun none (117, 36, ls, st, w) else zrun none (117, 18, ls, st, w) := (zE_ (i := .ifCond .eq 21) (by decide +kernel) _ _ _).trans (zq_if_eq rfl rfl)
theorem e117_18 (v0 v1 v2 v3 : Value) (x : Int32) (st : List Value) (w : zH) : zrun none (117, 18, [v0, v1, v2, v3, .int x], st, w) = zrun none (117, 20, [v0, v1, v2, v3, .int x], (.int x :: st), w) := (zE_ (i := .iload 4) (by decide +kernel) _ _ _).trans rfl
theorem e117_20 (ls st : List Value) (w : zH) : zrun none (117, 20, ls, st, w) = zrun none (117, 22, ls, (.int 100 :: st), w) := (zE_ (i := .bipush 100) (by decide +kernel) _ _ _).trans rfl
theorem e117_22 (ls : List Value) (a b : Int32) (st : List Value) (w : zH) : zrun none (117, 22, ls, (.int b :: .int a :: st), w) = if a < b then zrun none (117, 36, ls, st, w) else zrun none (117, 25, ls, st, w) := (zE_ (i := .if_icmp .lt 14) (by decide +kernel) _ _ _).trans (zq_ic_lt rfl rfl)
theorem e117_25 (v0 v1 v2 v4 : Value) (x : Int32) (st : List Value) (w : zH) : zrun none (117, 25, [v0, v1, v2, .int x, v4], st, w) = zrun none (117, 26, [v0, v1, v2, .int x, v4], (.int x :: st), w) := (zE_ (i := .iload_n 3) (by decide +kernel) _ _ _).trans rfl
theorem e117_26 (ls st : List Value) (w : zH) : zrun none (117, 26, ls, st, w) = zrun none (117, 27, ls, (.int 1 :: st), w) := (zE_ (i := .iconst 1) (by decide +kernel) _ _ _).trans rfl
theorem e117_27 (ls : List Value) (a b : Int32) (st : List Value) (w : zH) : zrun none (117, 27, ls, (.int b :: .int a :: st), w) = if a = b then zrun none (117, 30, ls, st, w) else zrun none (117, 34, ls, st, w) := (zE_ (i := .if_icmp .ne 7) (by decide +kernel) _ _ _).trans (zq_ic_ne rfl rfl)
theorem e117_30 (ls st : List Value) (w : zH) : zrun none (117, 30, ls, st, w) = zrun none (117, 31, ls, (.int 2 :: st), w) := (zE_ (i := .iconst 2) (by decide +kernel) _ _ _).trans rfl
theorem e117_31 (ls st : List Value) (w : zH) : zrun none (117, 31, ls, st, w) = zrun none (117, 35, ls, st, w) := (zE_ (i := .goto 4) (by decide +kernel) _ _ _).trans rfl
theorem e117_34 (ls st : List Value) (w : zH) : zrun none (117, 34, ls, st, w) = zrun none (117, 35, ls, (.int 1 :: st), w) := (zE_ (i := .iconst 1) (by decide +kernel) _ _ _).trans rfl
theorem e117_35 (ls : List Value) (x : Int32) (w : zH) : zrun none (117, 35, ls, [.int x], w) = some (some (.int x), w) := by
  refine (zE_ (i := .ireturn) (by decide +kernel) _ _ _).trans ?_
  show zres (if narrow .int (.int x) = .int x then _ else none) = _
  rw [if_pos (show narrow .int (.int x) = .int x from rfl)]
  rfl
theorem e117_36 (v0 v1 v2 v3 : Value) (x : Int32) (st : List Value) (w : zH) : zrun none (117, 36, [v0, v1, v2, v3, .int x], st, w) = zrun none (117, 38, [v0, v1, v2, v3, .int x], (.int x :: st), w) := (zE_ (i := .iload 4) (by decide +kernel) _ _ _).trans rfl
theorem e117_38 (ls st : List Value) (w : zH) : zrun none (117, 38, ls, st, w) = zrun none (117, 40, ls, (.int 30 :: st), w) := (zE_ (i := .bipush 30) (by decide +kernel) _ _ _).trans rfl
theorem e117_40 (ls : List Value) (a b : Int32) (st : List Value) (w : zH) : zrun none (117, 40, ls, (.int b :: .int a :: st), w) = if b ≤ a then zrun none (117, 47, ls, st, w) else zrun none (117, 43, ls, st, w) := (zE_ (i := .if_icmp .ge 7) (by decide +kernel) _ _ _).trans (zq_ic_ge rfl rfl)
theorem e117_43 (ls st : List Value) (w : zH) : zrun none (117, 43, ls, st, w) = zrun none (117, 44, ls, (.int 3 :: st), w) := (zE_ (i := .iconst 3) (by decide +kernel) _ _ _).trans rfl
theorem e117_44 (ls st : List Value) (w : zH) : zrun none (117, 44, ls, st, w) = zrun none (117, 48, ls, st, w) := (zE_ (i := .goto 4) (by decide +kernel) _ _ _).trans rfl
theorem e117_47 (ls st : List Value) (w : zH) : zrun none (117, 47, ls, st, w) = zrun none (117, 48, ls, (.int 0 :: st), w) := (zE_ (i := .iconst 0) (by decide +kernel) _ _ _).trans rfl
theorem e117_48 (ls : List Value) (x : Int32) (w : zH) : zrun none (117, 48, ls, [.int x], w) = some (some (.int x), w) := by
  refine (zE_ (i := .ireturn) (by decide +kernel) _ _ _).trans ?_
  show zres (if narrow .int (.int x) = .int x then _ else none) = _
  rw [if_pos (show narrow .int (.int x) = .int x from rfl)]
  rfl
theorem e118_0 (v0 : Value) (x : Int32) (st : List Value) (w : zH) : zrun none (118, 0, [v0, .int x], st, w) = zrun none (118, 1, [v0, .int x], (.int x :: st), w) := (zE_ (i := .iload_n 1) (by decide +kernel) _ _ _).trans rfl
theorem e118_1 (ls : List Value) (a : Int32) (st : List Value) (w : zH) : zrun none (118, 1, ls, (.int a :: st), w) = if a = 0 then zrun none (118, 19, ls, st, w) else zrun none (118, 4, ls, st, w) := (zE_ (i := .ifCond .eq 18) (by decide +kernel) _ _ _).trans (zq_if_eq rfl rfl)
theorem e118_4 (v0 : Value) (x : Int32) (st : List Value) (w : zH) : zrun none (118, 4, [v0, .int x], st, w) = zrun none (118, 5, [v0, .int x], (.int x :: st), w) := (zE_ (i := .iload_n 1) (by decide +kernel) _ _ _).trans rfl
theorem e118_5 (v1 : Value) (x : Int32) (st : List Value) (w : zH) : zrun none (118, 5, [.int x, v1], st, w) = zrun none (118, 6, [.int x, v1], (.int x :: st), w) := (zE_ (i := .iload_n 0) (by decide +kernel) _ _ _).trans rfl
theorem e118_6 (ls : List Value) (a b : Int32) (st : List Value) (w : zH) : zrun none (118, 6, ls, (.int b :: .int a :: st), w) = if a = b then zrun none (118, 19, ls, st, w) else zrun none (118, 9, ls, st, w) := (zE_ (i := .if_icmp .eq 13) (by decide +kernel) _ _ _).trans (zq_ic_eq rfl rfl)
theorem e118_9 (v0 : Value) (x : Int32) (st : List Value) (w : zH) : zrun none (118, 9, [v0, .int x], st, w) = zrun none (118, 10, [v0, .int x], (.int x :: st), w) := (zE_ (i := .iload_n 1) (by decide +kernel) _ _ _).trans rfl
theorem e118_10 (ls st : List Value) (w : zH) : zrun none (118, 10, ls, st, w) = zrun none (118, 11, ls, (.int 1 :: st), w) := (zE_ (i := .iconst 1) (by decide +kernel) _ _ _).trans rfl
theorem e118_11 (ls : List Value) (a b : Int32) (st : List Value) (w : zH) : zrun none (118, 11, ls, (.int b :: .int a :: st), w) = if a = b then zrun none (118, 14, ls, st, w) else zrun none (118, 23, ls, st, w) := (zE_ (i := .if_icmp .ne 12) (by decide +kernel) _ _ _).trans (zq_ic_ne rfl rfl)
theorem e118_14 (v1 : Value) (x : Int32) (st : List Value) (w : zH) : zrun none (118, 14, [.int x, v1], st, w) = zrun none (118, 15, [.int x, v1], (.int x :: st), w) := (zE_ (i := .iload_n 0) (by decide +kernel) _ _ _).trans rfl
theorem e118_15 (ls st : List Value) (w : zH) : zrun none (118, 15, ls, st, w) = zrun none (118, 16, ls, (.int 2 :: st), w) := (zE_ (i := .iconst 2) (by decide +kernel) _ _ _).trans rfl
theorem e118_16 (ls : List Value) (a b : Int32) (st : List Value) (w : zH) : zrun none (118, 16, ls, (.int b :: .int a :: st), w) = if a = b then zrun none (118, 19, ls, st, w) else zrun none (118, 23, ls, st, w) := (zE_ (i := .if_icmp .ne 7) (by decide +kernel) _ _ _).trans (zq_ic_ne rfl rfl)
theorem e118_19 (ls st : List Value) (w : zH) : zrun none (118, 19, ls, st, w) = zrun none (118, 20, ls, (.int 1 :: st), w) := (zE_ (i := .iconst 1) (by decide +kernel) _ _ _).trans rfl
theorem e118_20 (ls st : List Value) (w : zH) : zrun none (118, 20, ls, st, w) = zrun none (118, 24, ls, st, w) := (zE_ (i := .goto 4) (by decide +kernel) _ _ _).trans rfl
theorem e118_23 (ls st : List Value) (w : zH) : zrun none (118, 23, ls, st, w) = zrun none (118, 24, ls, (.int 0 :: st), w) := (zE_ (i := .iconst 0) (by decide +kernel) _ _ _).trans rfl
theorem e118_24 (ls : List Value) (x : Int32) (w : zH) (h : narrow .boolean (.int x) = .int x) : zrun none (118, 24, ls, [.int x], w) = some (some (.int x), w) := by
  refine (zE_ (i := .ireturn) (by decide +kernel) _ _ _).trans ?_
  show zres (if narrow .boolean (.int x) = .int x then _ else none) = _
  rw [if_pos h]
  rfl
theorem e119_0 (ls st : List Value) (w : zH) : zrun none (119, 0, ls, st, w) = zrun none (119, 1, ls, (.int 0 :: st), w) := (zE_ (i := .iconst 0) (by decide +kernel) _ _ _).trans rfl
theorem e119_1 (v0 v1 v2 v3 v4 : Value) (x : Int32) (st : List Value) (w : zH) (h : v1.category = 1) : zrun none (119, 1, [v0, v1, v2, v3, v4], (.int x :: st), w) = zrun none (119, 2, [v0, v1, .int x, v3, v4], st, w) := by
  refine (zE_ (i := .istore_n 2) (by decide +kernel) _ _ _).trans ?_
  have hz : zfree [v0, v1, v2, v3, v4] 2 = true := by show decide (v1.category = 1) = true; exact decide_eq_true h
  show zres (zst zint 2 1 119 1 [v0, v1, v2, v3, v4] (.int x :: st) w) = _
  unfold zst
  dsimp only
  rw [if_pos ⟨rfl, Nat.le_of_ble_eq_true rfl, hz⟩]
  rfl
theorem e119_2 (ls st : List Value) (w : zH) : zrun none (119, 2, ls, st, w) = zrun none (119, 3, ls, (.int 0 :: st), w) := (zE_ (i := .iconst 0) (by decide +kernel) _ _ _).trans rfl
theorem e119_3 (v0 v1 v2 v3 v4 : Value) (x : Int32) (st : List Value) (w : zH) (h : v2.category = 1) : zrun none (119, 3, [v0, v1, v2, v3, v4], (.int x :: st), w) = zrun none (119, 4, [v0, v1, v2, .int x, v4], st, w) := by
  refine (zE_ (i := .istore_n 3) (by decide +kernel) _ _ _).trans ?_
  have hz : zfree [v0, v1, v2, v3, v4] 3 = true := by show decide (v2.category = 1) = true; exact decide_eq_true h
  show zres (zst zint 3 1 119 3 [v0, v1, v2, v3, v4] (.int x :: st) w) = _
  unfold zst
  dsimp only
  rw [if_pos ⟨rfl, Nat.le_of_ble_eq_true rfl, hz⟩]
  rfl
theorem e119_4 (v0 v1 v2 v4 : Value) (x : Int32) (st : List Value) (w : zH) : zrun none (119, 4, [v0, v1, v2, .int x, v4], st, w) = zrun none (119, 5, [v0, v1, v2, .int x, v4], (.int x :: st), w) := (zE_ (i := .iload_n 3) (by decide +kernel) _ _ _).trans rfl
theorem e119_5 (v1 v2 v3 v4 : Value) (x : Nat) (st : List Value) (w : zH) : zrun none (119, 5, [.ref x, v1, v2, v3, v4], st, w) = zrun none (119, 6, [.ref x, v1, v2, v3, v4], (.ref x :: st), w) := (zE_ (i := .aload_n 0) (by decide +kernel) _ _ _).trans rfl
theorem e119_6 (ls : List Value) (a : Nat) (st : List Value) (w : zH) : zrun none (119, 6, ls, (.ref a :: st), w) = zo (zf w a 1103) (fun x => zrun none (119, 9, ls, (x :: st), w)) := (zE_ (i := .getfield 1103) (by decide +kernel) _ _ _).trans zq_getf
theorem e119_9 (ls : List Value) (a b : Int32) (st : List Value) (w : zH) : zrun none (119, 9, ls, (.int b :: .int a :: st), w) = if b ≤ a then zrun none (119, 50, ls, st, w) else zrun none (119, 12, ls, st, w) := (zE_ (i := .if_icmp .ge 41) (by decide +kernel) _ _ _).trans (zq_ic_ge rfl rfl)
theorem e119_12 (v1 v2 v3 v4 : Value) (x : Nat) (st : List Value) (w : zH) : zrun none (119, 12, [.ref x, v1, v2, v3, v4], st, w) = zrun none (119, 13, [.ref x, v1, v2, v3, v4], (.ref x :: st), w) := (zE_ (i := .aload_n 0) (by decide +kernel) _ _ _).trans rfl
theorem e119_13 (v0 v1 v2 v4 : Value) (x : Int32) (st : List Value) (w : zH) : zrun none (119, 13, [v0, v1, v2, .int x, v4], st, w) = zrun none (119, 14, [v0, v1, v2, .int x, v4], (.int x :: st), w) := (zE_ (i := .iload_n 3) (by decide +kernel) _ _ _).trans rfl
theorem e119_14 (ls : List Value) (a : Nat) (x0 : Int32) (st : List Value) (w : zH) (hr : zcat st ≤ 8) : zrun none (119, 14, ls, (.int x0 :: .ref a :: st), w) = zgd (zis w a 11) (zcl (zrun none (111, 0, [.ref a, .int x0], [], w)) (fun r => zrun none (119, 17, ls, r.1.toList ++ st, r.2))) := by
  refine (zE_ (i := .invokevirtual 111) (by decide +kernel) _ _ _).trans ?_
  show zres (zinv none 111 119 14 ls (.int x0 :: .ref a :: st) w) = _
  unfold zinv
  show zres (if zrc none 111 w (.ref a) = true then zcall 111 [.ref a, .int x0] st 119 14 ls w else none) = _
  by_cases hc : zis w a 11
  · rw [if_pos (zrc_is hc (by decide +kernel)), zgd_pos hc]
    exact zq_call hr (Nat.le_of_ble_eq_true rfl) rfl rfl
  · rw [zgd_neg hc, if_neg (fun q => hc (zrc_of q (by decide +kernel)))]
    rfl
theorem e119_17 (v0 v1 v2 v3 v4 : Value) (x : Nat) (st : List Value) (w : zH) (h : v3.category = 1) : zrun none (119, 17, [v0, v1, v2, v3, v4], (.ref x :: st), w) = zrun none (119, 19, [v0, v1, v2, v3, .ref x], st, w) := by
  refine (zE_ (i := .astore 4) (by decide +kernel) _ _ _).trans ?_
  have hz : zfree [v0, v1, v2, v3, v4] 4 = true := by show decide (v3.category = 1) = true; exact decide_eq_true h
  show zres (zst zref 4 2 119 17 [v0, v1, v2, v3, v4] (.ref x :: st) w) = _
  unfold zst
  dsimp only
  rw [if_pos ⟨rfl, Nat.le_of_ble_eq_true rfl, hz⟩]
  rfl
theorem e119_17n (v0 v1 v2 v3 v4 : Value) (st : List Value) (w : zH) (h : v3.category = 1) : zrun none (119, 17, [v0, v1, v2, v3, v4], (.null :: st), w) = zrun none (119, 19, [v0, v1, v2, v3, .null], st, w) := by
  refine (zE_ (i := .astore 4) (by decide +kernel) _ _ _).trans ?_
  have hz : zfree [v0, v1, v2, v3, v4] 4 = true := by show decide (v3.category = 1) = true; exact decide_eq_true h
  show zres (zst zref 4 2 119 17 [v0, v1, v2, v3, v4] (.null :: st) w) = _
  unfold zst
  dsimp only
  rw [if_pos ⟨rfl, Nat.le_of_ble_eq_true rfl, hz⟩]
  rfl
theorem e119_19 (v0 v1 v2 v3 : Value) (x : Nat) (st : List Value) (w : zH) : zrun none (119, 19, [v0, v1, v2, v3, .ref x], st, w) = zrun none (119, 21, [v0, v1, v2, v3, .ref x], (.ref x :: st), w) := (zE_ (i := .aload 4) (by decide +kernel) _ _ _).trans rfl
theorem e119_19n (v0 v1 v2 v3 : Value) (st : List Value) (w : zH) : zrun none (119, 19, [v0, v1, v2, v3, .null], st, w) = zrun none (119, 21, [v0, v1, v2, v3, .null], (.null :: st), w) := (zE_ (i := .aload 4) (by decide +kernel) _ _ _).trans rfl
theorem e119_21n (ls st : List Value) (w : zH) : zrun none (119, 21, ls, (.null :: st), w) = zrun none (119, 44, ls, st, w) := (zE_ (i := .ifnull 23) (by decide +kernel) _ _ _).trans rfl
theorem e119_21 (ls : List Value) (a : Nat) (st : List Value) (w : zH) (h : a < zX) : zrun none (119, 21, ls, (.ref a :: st), w) = zrun none (119, 24, ls, st, w) := by
  refine (zE_ (i := .ifnull 23) (by decide +kernel) _ _ _).trans ?_
  simp only [zI, if_pos h]
  rfl
theorem e119_24 (v1 v2 v3 v4 : Value) (x : Nat) (st : List Value) (w : zH) : zrun none (119, 24, [.ref x, v1, v2, v3, v4], st, w) = zrun none (119, 25, [.ref x, v1, v2, v3, v4], (.ref x :: st), w) := (zE_ (i := .aload_n 0) (by decide +kernel) _ _ _).trans rfl
theorem e119_25 (v0 v1 v2 v3 : Value) (x : Nat) (st : List Value) (w : zH) : zrun none (119, 25, [v0, v1, v2, v3, .ref x], st, w) = zrun none (119, 27, [v0, v1, v2, v3, .ref x], (.ref x :: st), w) := (zE_ (i := .aload 4) (by decide +kernel) _ _ _).trans rfl
theorem e119_25n (v0 v1 v2 v3 : Value) (st : List Value) (w : zH) : zrun none (119, 25, [v0, v1, v2, v3, .null], st, w) = zrun none (119, 27, [v0, v1, v2, v3, .null], (.null :: st), w) := (zE_ (i := .aload 4) (by decide +kernel) _ _ _).trans rfl
theorem e119_27 (v1 v2 v3 v4 : Value) (x : Nat) (st : List Value) (w : zH) : zrun none (119, 27, [.ref x, v1, v2, v3, v4], st, w) = zrun none (119, 28, [.ref x, v1, v2, v3, v4], (.ref x :: st), w) := (zE_ (i := .aload_n 0) (by decide +kernel) _ _ _).trans rfl
theorem e119_28 (ls : List Value) (a : Nat) (st : List Value) (w : zH) : zrun none (119, 28, ls, (.ref a :: st), w) = zo (zf w a 1116) (fun x => zrun none (119, 31, ls, (x :: st), w)) := (zE_ (i := .getfield 1116) (by decide +kernel) _ _ _).trans zq_getf
theorem e119_31 (ls : List Value) (a : Nat) (x0 : Nat) (x1 : Int32) (st : List Value) (w : zH) (hr : zcat st ≤ 8) : zrun none (119, 31, ls, (.int x1 :: .ref x0 :: .ref a :: st), w) = zgd (zis w a 11) (zcl (zrun none (117, 0, [.ref a, .ref x0, .int x1, zJ, zJ], [], w)) (fun r => zrun none (119, 34, ls, r.1.toList ++ st, r.2))) := by
  refine (zE_ (i := .invokevirtual 117) (by decide +kernel) _ _ _).trans ?_
  show zres (zinv none 117 119 31 ls (.int x1 :: .ref x0 :: .ref a :: st) w) = _
  unfold zinv
  show zres (if zrc none 117 w (.ref a) = true then zcall 117 [.ref a, .ref x0, .int x1] st 119 31 ls w else none) = _
  by_cases hc : zis w a 11
  · rw [if_pos (zrc_is hc (by decide +kernel)), zgd_pos hc]
    exact zq_call hr (Nat.le_of_ble_eq_true rfl) rfl rfl
  · rw [zgd_neg hc, if_neg (fun q => hc (zrc_of q (by decide +kernel)))]
    rfl
theorem e119_34 (v0 v2 v3 v4 : Value) (x : Int32) (st : List Value) (w : zH) : zrun none (119, 34, [v0, .int x, v2, v3, v4], st, w) = zrun none (119, 35, [v0, .int x, v2, v3, v4], (.int x :: st), w) := (zE_ (i := .iload_n 1) (by decide +kernel) _ _ _).trans rfl
theorem e119_35 (ls : List Value) (x0 : Int32) (x1 : Int32) (st : List Value) (w : zH) (hr : zcat st ≤ 8) : zrun none (119, 35, ls, (.int x1 :: .int x0 :: st), w) = zcl (zrun none (118, 0, [.int x0, .int x1], [], w)) (fun r => zrun none (119, 38, ls, r.1.toList ++ st, r.2)) := by
  refine (zE_ (i := .invokestatic 118) (by decide +kernel) _ _ _).trans ?_
  show zres (if (99 : Nat) = 99 ∧ 2 ≤ ((.int x1 :: .int x0 :: st) : List Value).length then zcall 118 [.int x0, .int x1] st 119 35 ls w else none) = _
  rw [if_pos ⟨rfl, by simp⟩]
  exact zq_call hr (Nat.le_of_ble_eq_true rfl) rfl rfl
theorem e119_38 (ls : List Value) (a : Int32) (st : List Value) (w : zH) : zrun none (119, 38, ls, (.int a :: st), w) = if a = 0 then zrun none (119, 44, ls, st, w) else zrun none (119, 41, ls, st, w) := (zE_ (i := .ifCond .eq 6) (by decide +kernel) _ _ _).trans (zq_if_eq rfl rfl)
theorem e119_41 (v0 v1 v3 v4 : Value) (x : Int32) (st : List Value) (w : zH) : zrun none (119, 41, [v0, v1, .int x, v3, v4], st, w) = zrun none (119, 44, [v0, v1, .int (x + 1), v3, v4], st, w) := (zE_ (i := .iinc 2 1) (by decide +kernel) _ _ _).trans rfl
theorem e119_44 (v0 v1 v2 v4 : Value) (x : Int32) (st : List Value) (w : zH) : zrun none (119, 44, [v0, v1, v2, .int x, v4], st, w) = zrun none (119, 47, [v0, v1, v2, .int (x + 1), v4], st, w) := (zE_ (i := .iinc 3 1) (by decide +kernel) _ _ _).trans rfl
theorem e119_47 (ls st : List Value) (w : zH) : zrun none (119, 47, ls, st, w) = zrun none (119, 4, ls, st, w) := (zE_ (i := .goto (-43)) (by decide +kernel) _ _ _).trans rfl
theorem e119_50 (v0 v1 v3 v4 : Value) (x : Int32) (st : List Value) (w : zH) : zrun none (119, 50, [v0, v1, .int x, v3, v4], st, w) = zrun none (119, 51, [v0, v1, .int x, v3, v4], (.int x :: st), w) := (zE_ (i := .iload_n 2) (by decide +kernel) _ _ _).trans rfl
theorem e119_51 (ls : List Value) (x : Int32) (w : zH) : zrun none (119, 51, ls, [.int x], w) = some (some (.int x), w) := by
  refine (zE_ (i := .ireturn) (by decide +kernel) _ _ _).trans ?_
  show zres (if narrow .int (.int x) = .int x then _ else none) = _
  rw [if_pos (show narrow .int (.int x) = .int x from rfl)]
  rfl
theorem e120_0 (ls st : List Value) (w : zH) : zrun none (120, 0, ls, st, w) = zrun none (120, 1, ls, (.int 0 :: st), w) := (zE_ (i := .iconst 0) (by decide +kernel) _ _ _).trans rfl
theorem e120_1 (v0 v1 v2 v3 : Value) (x : Int32) (st : List Value) (w : zH) (h : v0.category = 1) : zrun none (120, 1, [v0, v1, v2, v3], (.int x :: st), w) = zrun none (120, 2, [v0, .int x, v2, v3], st, w) := by
  refine (zE_ (i := .istore_n 1) (by decide +kernel) _ _ _).trans ?_
  have hz : zfree [v0, v1, v2, v3] 1 = true := by show decide (v0.category = 1) = true; exact decide_eq_true h
  show zres (zst zint 1 1 120 1 [v0, v1, v2, v3] (.int x :: st) w) = _
  unfold zst
  dsimp only
  rw [if_pos ⟨rfl, Nat.le_of_ble_eq_true rfl, hz⟩]
  rfl
theorem e120_2 (ls st : List Value) (w : zH) : zrun none (120, 2, ls, st, w) = zrun none (120, 3, ls, (.int 0 :: st), w) := (zE_ (i := .iconst 0) (by decide +kernel) _ _ _).trans rfl
theorem e120_3 (v0 v1 v2 v3 : Value) (x : Int32) (st : List Value) (w : zH) (h : v1.category = 1) : zrun none (120, 3, [v0, v1, v2, v3], (.int x :: st), w) = zrun none (120, 4, [v0, v1, .int x, v3], st, w) := by
  refine (zE_ (i := .istore_n 2) (by decide +kernel) _ _ _).trans ?_
  have hz : zfree [v0, v1, v2, v3] 2 = true := by show decide (v1.category = 1) = true; exact decide_eq_true h
  show zres (zst zint 2 1 120 3 [v0, v1, v2, v3] (.int x :: st) w) = _
  unfold zst
  dsimp only
  rw [if_pos ⟨rfl, Nat.le_of_ble_eq_true rfl, hz⟩]
  rfl
theorem e120_4 (v0 v1 v3 : Value) (x : Int32) (st : List Value) (w : zH) : zrun none (120, 4, [v0, v1, .int x, v3], st, w) = zrun none (120, 5, [v0, v1, .int x, v3], (.int x :: st), w) := (zE_ (i := .iload_n 2) (by decide +kernel) _ _ _).trans rfl
theorem e120_5 (ls st : List Value) (w : zH) : zrun none (120, 5, ls, st, w) = zrun none (120, 7, ls, (.int 8 :: st), w) := (zE_ (i := .bipush 8) (by decide +kernel) _ _ _).trans rfl
theorem e120_7 (ls : List Value) (a b : Int32) (st : List Value) (w : zH) : zrun none (120, 7, ls, (.int b :: .int a :: st), w) = if b ≤ a then zrun none (120, 36, ls, st, w) else zrun none (120, 10, ls, st, w) := (zE_ (i := .if_icmp .ge 29) (by decide +kernel) _ _ _).trans (zq_ic_ge rfl rfl)
theorem e120_10 (v1 v2 v3 : Value) (x : Nat) (st : List Value) (w : zH) : zrun none (120, 10, [.ref x, v1, v2, v3], st, w) = zrun none (120, 11, [.ref x, v1, v2, v3], (.ref x :: st), w) := (zE_ (i := .aload_n 0) (by decide +kernel) _ _ _).trans rfl
theorem e120_11 (v0 v1 v3 : Value) (x : Int32) (st : List Value) (w : zH) : zrun none (120, 11, [v0, v1, .int x, v3], st, w) = zrun none (120, 12, [v0, v1, .int x, v3], (.int x :: st), w) := (zE_ (i := .iload_n 2) (by decide +kernel) _ _ _).trans rfl
theorem e120_12 (ls : List Value) (a : Nat) (x0 : Int32) (st : List Value) (w : zH) (hr : zcat st ≤ 8) : zrun none (120, 12, ls, (.int x0 :: .ref a :: st), w) = zgd (zis w a 11) (zcl (zrun none (110, 0, [.ref a, .int x0], [], w)) (fun r => zrun none (120, 15, ls, r.1.toList ++ st, r.2))) := by
  refine (zE_ (i := .invokevirtual 110) (by decide +kernel) _ _ _).trans ?_
  show zres (zinv none 110 120 12 ls (.int x0 :: .ref a :: st) w) = _
  unfold zinv
  show zres (if zrc none 110 w (.ref a) = true then zcall 110 [.ref a, .int x0] st 120 12 ls w else none) = _
  by_cases hc : zis w a 11
  · rw [if_pos (zrc_is hc (by decide +kernel)), zgd_pos hc]
    exact zq_call hr (Nat.le_of_ble_eq_true rfl) rfl rfl
  · rw [zgd_neg hc, if_neg (fun q => hc (zrc_of q (by decide +kernel)))]
    rfl
theorem e120_15 (v0 v1 v2 v3 : Value) (x : Nat) (st : List Value) (w : zH) (h : v2.category = 1) : zrun none (120, 15, [v0, v1, v2, v3], (.ref x :: st), w) = zrun none (120, 16, [v0, v1, v2, .ref x], st, w) := by
  refine (zE_ (i := .astore_n 3) (by decide +kernel) _ _ _).trans ?_
  have hz : zfree [v0, v1, v2, v3] 3 = true := by show decide (v2.category = 1) = true; exact decide_eq_true h
  show zres (zst zref 3 1 120 15 [v0, v1, v2, v3] (.ref x :: st) w) = _
  unfold zst
  dsimp only
  rw [if_pos ⟨rfl, Nat.le_of_ble_eq_true rfl, hz⟩]
  rfl
theorem e120_15n (v0 v1 v2 v3 : Value) (st : List Value) (w : zH) (h : v2.category = 1) : zrun none (120, 15, [v0, v1, v2, v3], (.null :: st), w) = zrun none (120, 16, [v0, v1, v2, .null], st, w) := by
  refine (zE_ (i := .astore_n 3) (by decide +kernel) _ _ _).trans ?_
  have hz : zfree [v0, v1, v2, v3] 3 = true := by show decide (v2.category = 1) = true; exact decide_eq_true h
  show zres (zst zref 3 1 120 15 [v0, v1, v2, v3] (.null :: st) w) = _
  unfold zst
  dsimp only
  rw [if_pos ⟨rfl, Nat.le_of_ble_eq_true rfl, hz⟩]
  rfl
theorem e120_16 (v0 v1 v2 : Value) (x : Nat) (st : List Value) (w : zH) : zrun none (120, 16, [v0, v1, v2, .ref x], st, w) = zrun none (120, 17, [v0, v1, v2, .ref x], (.ref x :: st), w) := (zE_ (i := .aload_n 3) (by decide +kernel) _ _ _).trans rfl
theorem e120_16n (v0 v1 v2 : Value) (st : List Value) (w : zH) : zrun none (120, 16, [v0, v1, v2, .null], st, w) = zrun none (120, 17, [v0, v1, v2, .null], (.null :: st), w) := (zE_ (i := .aload_n 3) (by decide +kernel) _ _ _).trans rfl
theorem e120_17n (ls st : List Value) (w : zH) : zrun none (120, 17, ls, (.null :: st), w) = zrun none (120, 30, ls, st, w) := (zE_ (i := .ifnull 13) (by decide +kernel) _ _ _).trans rfl
theorem e120_17 (ls : List Value) (a : Nat) (st : List Value) (w : zH) (h : a < zX) : zrun none (120, 17, ls, (.ref a :: st), w) = zrun none (120, 20, ls, st, w) := by
  refine (zE_ (i := .ifnull 13) (by decide +kernel) _ _ _).trans ?_
  simp only [zI, if_pos h]
  rfl
theorem e120_20 (v0 v1 v2 : Value) (x : Nat) (st : List Value) (w : zH) : zrun none (120, 20, [v0, v1, v2, .ref x], st, w) = zrun none (120, 21, [v0, v1, v2, .ref x], (.ref x :: st), w) := (zE_ (i := .aload_n 3) (by decide +kernel) _ _ _).trans rfl
theorem e120_20n (v0 v1 v2 : Value) (st : List Value) (w : zH) : zrun none (120, 20, [v0, v1, v2, .null], st, w) = zrun none (120, 21, [v0, v1, v2, .null], (.null :: st), w) := (zE_ (i := .aload_n 3) (by decide +kernel) _ _ _).trans rfl
theorem e120_21 (ls : List Value) (a : Nat) (st : List Value) (w : zH) : zrun none (120, 21, ls, (.ref a :: st), w) = zo (zf w a 801) (fun x => zrun none (120, 24, ls, (x :: st), w)) := (zE_ (i := .getfield 801) (by decide +kernel) _ _ _).trans zq_getf
theorem e120_24 (ls : List Value) (a : Int32) (st : List Value) (w : zH) : zrun none (120, 24, ls, (.int a :: st), w) = if a = 0 then zrun none (120, 30, ls, st, w) else zrun none (120, 27, ls, st, w) := (zE_ (i := .ifCond .eq 6) (by decide +kernel) _ _ _).trans (zq_if_eq rfl rfl)
theorem e120_27 (v0 v2 v3 : Value) (x : Int32) (st : List Value) (w : zH) : zrun none (120, 27, [v0, .int x, v2, v3], st, w) = zrun none (120, 30, [v0, .int (x + 1), v2, v3], st, w) := (zE_ (i := .iinc 1 1) (by decide +kernel) _ _ _).trans rfl
theorem e120_30 (v0 v1 v3 : Value) (x : Int32) (st : List Value) (w : zH) : zrun none (120, 30, [v0, v1, .int x, v3], st, w) = zrun none (120, 33, [v0, v1, .int (x + 1), v3], st, w) := (zE_ (i := .iinc 2 1) (by decide +kernel) _ _ _).trans rfl
theorem e120_33 (ls st : List Value) (w : zH) : zrun none (120, 33, ls, st, w) = zrun none (120, 4, ls, st, w) := (zE_ (i := .goto (-29)) (by decide +kernel) _ _ _).trans rfl
theorem e120_36 (v0 v2 v3 : Value) (x : Int32) (st : List Value) (w : zH) : zrun none (120, 36, [v0, .int x, v2, v3], st, w) = zrun none (120, 37, [v0, .int x, v2, v3], (.int x :: st), w) := (zE_ (i := .iload_n 1) (by decide +kernel) _ _ _).trans rfl
theorem e120_37 (ls : List Value) (x : Int32) (w : zH) : zrun none (120, 37, ls, [.int x], w) = some (some (.int x), w) := by
  refine (zE_ (i := .ireturn) (by decide +kernel) _ _ _).trans ?_
  show zres (if narrow .int (.int x) = .int x then _ else none) = _
  rw [if_pos (show narrow .int (.int x) = .int x from rfl)]
  rfl
theorem e121_0 (v1 v2 : Value) (x : Nat) (st : List Value) (w : zH) : zrun none (121, 0, [.ref x, v1, v2], st, w) = zrun none (121, 1, [.ref x, v1, v2], (.ref x :: st), w) := (zE_ (i := .aload_n 0) (by decide +kernel) _ _ _).trans rfl
theorem e121_1 (ls : List Value) (a : Nat) (st : List Value) (w : zH) : zrun none (121, 1, ls, (.ref a :: st), w) = zo (zf w a 1106) (fun x => zrun none (121, 4, ls, (x :: st), w)) := (zE_ (i := .getfield 1106) (by decide +kernel) _ _ _).trans zq_getf
theorem e121_4 (v0 v1 v2 : Value) (x : Int32) (st : List Value) (w : zH) (h : v0.category = 1) : zrun none (121, 4, [v0, v1, v2], (.int x :: st), w) = zrun none (121, 5, [v0, .int x, v2], st, w) := by
  refine (zE_ (i := .istore_n 1) (by decide +kernel) _ _ _).trans ?_
  have hz : zfree [v0, v1, v2] 1 = true := by show decide (v0.category = 1) = true; exact decide_eq_true h
  show zres (zst zint 1 1 121 4 [v0, v1, v2] (.int x :: st) w) = _
  unfold zst
  dsimp only
  rw [if_pos ⟨rfl, Nat.le_of_ble_eq_true rfl, hz⟩]
  rfl
theorem e121_5 (v1 v2 : Value) (x : Nat) (st : List Value) (w : zH) : zrun none (121, 5, [.ref x, v1, v2], st, w) = zrun none (121, 6, [.ref x, v1, v2], (.ref x :: st), w) := (zE_ (i := .aload_n 0) (by decide +kernel) _ _ _).trans rfl
theorem e121_6 (ls : List Value) (a : Nat) (st : List Value) (w : zH) : zrun none (121, 6, ls, (.ref a :: st), w) = zo (zf w a 1104) (fun x => zrun none (121, 9, ls, (x :: st), w)) := (zE_ (i := .getfield 1104) (by decide +kernel) _ _ _).trans zq_getf
theorem e121_9 (ls : List Value) (a : Nat) (st : List Value) (w : zH) (hr : zcat st ≤ 8) : zrun none (121, 9, ls, (.ref a :: st), w) = zgd (zis w a 9) (zcl (zrun none (46, 0, [.ref a], [], w)) (fun r => zrun none (121, 12, ls, r.1.toList ++ st, r.2))) := by
  refine (zE_ (i := .invokevirtual 46) (by decide +kernel) _ _ _).trans ?_
  show zres (zinv none 46 121 9 ls (.ref a :: st) w) = _
  unfold zinv
  show zres (if zrc none 46 w (.ref a) = true then zcall 46 [.ref a] st 121 9 ls w else none) = _
  by_cases hc : zis w a 9
  · rw [if_pos (zrc_is hc (by decide +kernel)), zgd_pos hc]
    exact zq_call hr (Nat.le_of_ble_eq_true rfl) rfl rfl
  · rw [zgd_neg hc, if_neg (fun q => hc (zrc_of q (by decide +kernel)))]
    rfl
theorem e121_12 (ls st : List Value) (w : zH) : zrun none (121, 12, ls, st, w) = zrun none (121, 13, ls, (.int 0 :: st), w) := (zE_ (i := .iconst 0) (by decide +kernel) _ _ _).trans rfl
theorem e121_13 (v0 v1 v2 : Value) (x : Int32) (st : List Value) (w : zH) (h : v1.category = 1) : zrun none (121, 13, [v0, v1, v2], (.int x :: st), w) = zrun none (121, 14, [v0, v1, .int x], st, w) := by
  refine (zE_ (i := .istore_n 2) (by decide +kernel) _ _ _).trans ?_
  have hz : zfree [v0, v1, v2] 2 = true := by show decide (v1.category = 1) = true; exact decide_eq_true h
  show zres (zst zint 2 1 121 13 [v0, v1, v2] (.int x :: st) w) = _
  unfold zst
  dsimp only
  rw [if_pos ⟨rfl, Nat.le_of_ble_eq_true rfl, hz⟩]
  rfl
theorem e121_14 (v0 v1 : Value) (x : Int32) (st : List Value) (w : zH) : zrun none (121, 14, [v0, v1, .int x], st, w) = zrun none (121, 15, [v0, v1, .int x], (.int x :: st), w) := (zE_ (i := .iload_n 2) (by decide +kernel) _ _ _).trans rfl
theorem e121_15 (ls st : List Value) (w : zH) : zrun none (121, 15, ls, st, w) = zrun none (121, 17, ls, (.int 24 :: st), w) := (zE_ (i := .bipush 24) (by decide +kernel) _ _ _).trans rfl
theorem e121_17 (ls : List Value) (a b : Int32) (st : List Value) (w : zH) : zrun none (121, 17, ls, (.int b :: .int a :: st), w) = if b < a then zrun none (121, 69, ls, st, w) else zrun none (121, 20, ls, st, w) := (zE_ (i := .if_icmp .gt 52) (by decide +kernel) _ _ _).trans (zq_ic_gt rfl rfl)
theorem e121_20 (v1 v2 : Value) (x : Nat) (st : List Value) (w : zH) : zrun none (121, 20, [.ref x, v1, v2], st, w) = zrun none (121, 21, [.ref x, v1, v2], (.ref x :: st), w) := (zE_ (i := .aload_n 0) (by decide +kernel) _ _ _).trans rfl
theorem e121_21 (ls : List Value) (a : Nat) (st : List Value) (w : zH) : zrun none (121, 21, ls, (.ref a :: st), w) = zo (zf w a 1104) (fun x => zrun none (121, 24, ls, (x :: st), w)) := (zE_ (i := .getfield 1104) (by decide +kernel) _ _ _).trans zq_getf
theorem e121_24 (ls : List Value) (a : Nat) (st : List Value) (w : zH) (hr : zcat st ≤ 8) : zrun none (121, 24, ls, (.ref a :: st), w) = zgd (zis w a 9) (zcl (zrun none (47, 0, [.ref a], [], w)) (fun r => zrun none (121, 27, ls, r.1.toList ++ st, r.2))) := by
  refine (zE_ (i := .invokevirtual 47) (by decide +kernel) _ _ _).trans ?_
  show zres (zinv none 47 121 24 ls (.ref a :: st) w) = _
  unfold zinv
  show zres (if zrc none 47 w (.ref a) = true then zcall 47 [.ref a] st 121 24 ls w else none) = _
  by_cases hc : zis w a 9
  · rw [if_pos (zrc_is hc (by decide +kernel)), zgd_pos hc]
    exact zq_call hr (Nat.le_of_ble_eq_true rfl) rfl rfl
  · rw [zgd_neg hc, if_neg (fun q => hc (zrc_of q (by decide +kernel)))]
    rfl
theorem e121_27 (ls : List Value) (a : Int32) (st : List Value) (w : zH) : zrun none (121, 27, ls, (.int a :: st), w) = if a = 0 then zrun none (121, 30, ls, st, w) else zrun none (121, 69, ls, st, w) := (zE_ (i := .ifCond .ne 42) (by decide +kernel) _ _ _).trans (zq_if_ne rfl rfl)
theorem e121_30 (v0 v2 : Value) (x : Int32) (st : List Value) (w : zH) : zrun none (121, 30, [v0, .int x, v2], st, w) = zrun none (121, 31, [v0, .int x, v2], (.int x :: st), w) := (zE_ (i := .iload_n 1) (by decide +kernel) _ _ _).trans rfl
theorem e121_31 (ls st : List Value) (w : zH) : zrun none (121, 31, ls, st, w) = zrun none (121, 33, ls, (.int 24 :: st), w) := (zE_ (i := .bipush 24) (by decide +kernel) _ _ _).trans rfl
theorem e121_33 (ls : List Value) (a b : Int32) (st : List Value) (w : zH) : zrun none (121, 33, ls, (.int b :: .int a :: st), w) = if a < b then zrun none (121, 50, ls, st, w) else zrun none (121, 36, ls, st, w) := (zE_ (i := .if_icmp .lt 17) (by decide +kernel) _ _ _).trans (zq_ic_lt rfl rfl)
theorem e121_36 (v1 v2 : Value) (x : Nat) (st : List Value) (w : zH) : zrun none (121, 36, [.ref x, v1, v2], st, w) = zrun none (121, 37, [.ref x, v1, v2], (.ref x :: st), w) := (zE_ (i := .aload_n 0) (by decide +kernel) _ _ _).trans rfl
theorem e121_37 (ls : List Value) (a : Nat) (st : List Value) (w : zH) : zrun none (121, 37, ls, (.ref a :: st), w) = zo (zf w a 1104) (fun x => zrun none (121, 40, ls, (x :: st), w)) := (zE_ (i := .getfield 1104) (by decide +kernel) _ _ _).trans zq_getf
theorem e121_40 (ls st : List Value) (w : zH) : zrun none (121, 40, ls, st, w) = zrun none (121, 43, ls, (.ref 1000000 :: st), w) := (zE_ (i := .ldc 0) (by decide +kernel) _ _ _).trans rfl
theorem e121_43 (ls st : List Value) (w : zH) : zrun none (121, 43, ls, st, w) = zrun none (121, 44, ls, (.int 3 :: st), w) := (zE_ (i := .iconst 3) (by decide +kernel) _ _ _).trans rfl
theorem e121_44 (ls : List Value) (a : Nat) (x0 : Nat) (x1 : Int32) (st : List Value) (w : zH) (hr : zcat st ≤ 8) : zrun none (121, 44, ls, (.int x1 :: .ref x0 :: .ref a :: st), w) = zgd (zis w a 9) (zcl (zrun none (59, 0, [.ref a, .ref x0, .int x1], [], w)) (fun r => zrun none (121, 47, ls, r.1.toList ++ st, r.2))) := by
  refine (zE_ (i := .invokevirtual 59) (by decide +kernel) _ _ _).trans ?_
  show zres (zinv none 59 121 44 ls (.int x1 :: .ref x0 :: .ref a :: st) w) = _
  unfold zinv
  show zres (if zrc none 59 w (.ref a) = true then zcall 59 [.ref a, .ref x0, .int x1] st 121 44 ls w else none) = _
  by_cases hc : zis w a 9
  · rw [if_pos (zrc_is hc (by decide +kernel)), zgd_pos hc]
    exact zq_call hr (Nat.le_of_ble_eq_true rfl) rfl rfl
  · rw [zgd_neg hc, if_neg (fun q => hc (zrc_of q (by decide +kernel)))]
    rfl
theorem e121_47 (ls st : List Value) (w : zH) : zrun none (121, 47, ls, st, w) = zrun none (121, 63, ls, st, w) := (zE_ (i := .goto 16) (by decide +kernel) _ _ _).trans rfl
theorem e121_50 (v1 v2 : Value) (x : Nat) (st : List Value) (w : zH) : zrun none (121, 50, [.ref x, v1, v2], st, w) = zrun none (121, 51, [.ref x, v1, v2], (.ref x :: st), w) := (zE_ (i := .aload_n 0) (by decide +kernel) _ _ _).trans rfl
theorem e121_51 (ls : List Value) (a : Nat) (st : List Value) (w : zH) : zrun none (121, 51, ls, (.ref a :: st), w) = zo (zf w a 1105) (fun x => zrun none (121, 54, ls, (x :: st), w)) := (zE_ (i := .getfield 1105) (by decide +kernel) _ _ _).trans zq_getf
theorem e121_54 (v0 v2 : Value) (x : Int32) (st : List Value) (w : zH) : zrun none (121, 54, [v0, .int x, v2], st, w) = zrun none (121, 55, [v0, .int x, v2], (.int x :: st), w) := (zE_ (i := .iload_n 1) (by decide +kernel) _ _ _).trans rfl
theorem e121_55 (v1 v2 : Value) (x : Nat) (st : List Value) (w : zH) : zrun none (121, 55, [.ref x, v1, v2], st, w) = zrun none (121, 56, [.ref x, v1, v2], (.ref x :: st), w) := (zE_ (i := .aload_n 0) (by decide +kernel) _ _ _).trans rfl
theorem e121_56 (ls : List Value) (a : Nat) (st : List Value) (w : zH) (hr : zcat st ≤ 8) : zrun none (121, 56, ls, (.ref a :: st), w) = zgd (zis w a 11) (zcl (zrun none (122, 0, [.ref a, zJ, zJ, zJ, zJ, zJ, zJ], [], w)) (fun r => zrun none (121, 59, ls, r.1.toList ++ st, r.2))) := by
  refine (zE_ (i := .invokevirtual 122) (by decide +kernel) _ _ _).trans ?_
  show zres (zinv none 122 121 56 ls (.ref a :: st) w) = _
  unfold zinv
  show zres (if zrc none 122 w (.ref a) = true then zcall 122 [.ref a] st 121 56 ls w else none) = _
  by_cases hc : zis w a 11
  · rw [if_pos (zrc_is hc (by decide +kernel)), zgd_pos hc]
    exact zq_call hr (Nat.le_of_ble_eq_true rfl) rfl rfl
  · rw [zgd_neg hc, if_neg (fun q => hc (zrc_of q (by decide +kernel)))]
    rfl
theorem e121_59 (ls : List Value) (v : Value) (j : Int32) (a : Nat) (st : List Value) (w : zH) : zrun none (121, 59, ls, (v :: .int j :: .ref a :: st), w) = zgd (zaq w a j v) (zrun none (121, 60, ls, st, zas w a j v)) := by
  refine (zE_ (i := .aastore) (by decide +kernel) _ _ _).trans ?_
  by_cases hg : zaq w a j v
  · rw [zgd_pos hg]
    obtain ⟨k, h1, h2⟩ := hg
    exact zq_aast h1 h2
  · rw [zgd_neg hg]
    exact zq_aast_no hg
theorem e121_60 (v0 v2 : Value) (x : Int32) (st : List Value) (w : zH) : zrun none (121, 60, [v0, .int x, v2], st, w) = zrun none (121, 63, [v0, .int (x + 1), v2], st, w) := (zE_ (i := .iinc 1 1) (by decide +kernel) _ _ _).trans rfl
theorem e121_63 (v0 v1 : Value) (x : Int32) (st : List Value) (w : zH) : zrun none (121, 63, [v0, v1, .int x], st, w) = zrun none (121, 66, [v0, v1, .int (x + 1)], st, w) := (zE_ (i := .iinc 2 1) (by decide +kernel) _ _ _).trans rfl
theorem e121_66 (ls st : List Value) (w : zH) : zrun none (121, 66, ls, st, w) = zrun none (121, 14, ls, st, w) := (zE_ (i := .goto (-52)) (by decide +kernel) _ _ _).trans rfl
theorem e121_69 (v0 v2 : Value) (x : Int32) (st : List Value) (w : zH) : zrun none (121, 69, [v0, .int x, v2], st, w) = zrun none (121, 70, [v0, .int x, v2], (.int x :: st), w) := (zE_ (i := .iload_n 1) (by decide +kernel) _ _ _).trans rfl
theorem e121_70 (ls : List Value) (x : Int32) (w : zH) : zrun none (121, 70, ls, [.int x], w) = some (some (.int x), w) := by
  refine (zE_ (i := .ireturn) (by decide +kernel) _ _ _).trans ?_
  show zres (if narrow .int (.int x) = .int x then _ else none) = _
  rw [if_pos (show narrow .int (.int x) = .int x from rfl)]
  rfl
theorem e122_0 (v1 v2 v3 v4 v5 v6 : Value) (x : Nat) (st : List Value) (w : zH) : zrun none (122, 0, [.ref x, v1, v2, v3, v4, v5, v6], st, w) = zrun none (122, 1, [.ref x, v1, v2, v3, v4, v5, v6], (.ref x :: st), w) := (zE_ (i := .aload_n 0) (by decide +kernel) _ _ _).trans rfl
theorem e122_1 (ls : List Value) (a : Nat) (st : List Value) (w : zH) : zrun none (122, 1, ls, (.ref a :: st), w) = zo (zf w a 1104) (fun x => zrun none (122, 4, ls, (x :: st), w)) := (zE_ (i := .getfield 1104) (by decide +kernel) _ _ _).trans zq_getf
theorem e122_4 (ls st : List Value) (w : zH) : zrun none (122, 4, ls, st, w) = zrun none (122, 7, ls, (.ref 1000000 :: st), w) := (zE_ (i := .ldc 0) (by decide +kernel) _ _ _).trans rfl
theorem e122_7 (ls : List Value) (a : Nat) (x0 : Nat) (st : List Value) (w : zH) (hr : zcat st ≤ 8) : zrun none (122, 7, ls, (.ref x0 :: .ref a :: st), w) = zgd (zis w a 9) (zcl (zrun none (58, 0, [.ref a, .ref x0, zJ], [], w)) (fun r => zrun none (122, 10, ls, r.1.toList ++ st, r.2))) := by
  refine (zE_ (i := .invokevirtual 58) (by decide +kernel) _ _ _).trans ?_
  show zres (zinv none 58 122 7 ls (.ref x0 :: .ref a :: st) w) = _
  unfold zinv
  show zres (if zrc none 58 w (.ref a) = true then zcall 58 [.ref a, .ref x0] st 122 7 ls w else none) = _
  by_cases hc : zis w a 9
  · rw [if_pos (zrc_is hc (by decide +kernel)), zgd_pos hc]
    exact zq_call hr (Nat.le_of_ble_eq_true rfl) rfl rfl
  · rw [zgd_neg hc, if_neg (fun q => hc (zrc_of q (by decide +kernel)))]
    rfl
theorem e122_10 (ls : List Value) (x : Int32) (st : List Value) (w : zH) : zrun none (122, 10, ls, (.int x :: st), w) = zrun none (122, 11, ls, st, w) := (zE_ (i := .pop) (by decide +kernel) _ _ _).trans rfl
theorem e122_11 (v1 v2 v3 v4 v5 v6 : Value) (x : Nat) (st : List Value) (w : zH) : zrun none (122, 11, [.ref x, v1, v2, v3, v4, v5, v6], st, w) = zrun none (122, 12, [.ref x, v1, v2, v3, v4, v5, v6], (.ref x :: st), w) := (zE_ (i := .aload_n 0) (by decide +kernel) _ _ _).trans rfl
theorem e122_12 (ls : List Value) (a : Nat) (st : List Value) (w : zH) : zrun none (122, 12, ls, (.ref a :: st), w) = zo (zf w a 1104) (fun x => zrun none (122, 15, ls, (x :: st), w)) := (zE_ (i := .getfield 1104) (by decide +kernel) _ _ _).trans zq_getf
theorem e122_15 (ls st : List Value) (w : zH) : zrun none (122, 15, ls, st, w) = zrun none (122, 16, ls, (.int 0 :: st), w) := (zE_ (i := .iconst 0) (by decide +kernel) _ _ _).trans rfl
theorem e122_16 (ls st : List Value) (w : zH) : zrun none (122, 16, ls, st, w) = zrun none (122, 19, ls, (.int 99999 :: st), w) := (zE_ (i := .sipush (99999)) (by decide +kernel) _ _ _).trans rfl
theorem e122_19 (ls : List Value) (a : Nat) (x0 : Int32) (x1 : Int32) (st : List Value) (w : zH) (hr : zcat st ≤ 8) : zrun none (122, 19, ls, (.int x1 :: .int x0 :: .ref a :: st), w) = zgd (zis w a 9) (zcl (zrun none (60, 0, [.ref a, .int x0, .int x1, zJ], [], w)) (fun r => zrun none (122, 22, ls, r.1.toList ++ st, r.2))) := by
  refine (zE_ (i := .invokevirtual 60) (by decide +kernel) _ _ _).trans ?_
  show zres (zinv none 60 122 19 ls (.int x1 :: .int x0 :: .ref a :: st) w) = _
  unfold zinv
  show zres (if zrc none 60 w (.ref a) = true then zcall 60 [.ref a, .int x0, .int x1] st 122 19 ls w else none) = _
  by_cases hc : zis w a 9
  · rw [if_pos (zrc_is hc (by decide +kernel)), zgd_pos hc]
    exact zq_call hr (Nat.le_of_ble_eq_true rfl) rfl rfl
  · rw [zgd_neg hc, if_neg (fun q => hc (zrc_of q (by decide +kernel)))]
    rfl
theorem e122_22 (v0 v1 v2 v3 v4 v5 v6 : Value) (x : Int32) (st : List Value) (w : zH) (h : v0.category = 1) : zrun none (122, 22, [v0, v1, v2, v3, v4, v5, v6], (.int x :: st), w) = zrun none (122, 23, [v0, .int x, v2, v3, v4, v5, v6], st, w) := by
  refine (zE_ (i := .istore_n 1) (by decide +kernel) _ _ _).trans ?_
  have hz : zfree [v0, v1, v2, v3, v4, v5, v6] 1 = true := by show decide (v0.category = 1) = true; exact decide_eq_true h
  show zres (zst zint 1 1 122 22 [v0, v1, v2, v3, v4, v5, v6] (.int x :: st) w) = _
  unfold zst
  dsimp only
  rw [if_pos ⟨rfl, Nat.le_of_ble_eq_true rfl, hz⟩]
  rfl
theorem e122_23 (v1 v2 v3 v4 v5 v6 : Value) (x : Nat) (st : List Value) (w : zH) : zrun none (122, 23, [.ref x, v1, v2, v3, v4, v5, v6], st, w) = zrun none (122, 24, [.ref x, v1, v2, v3, v4, v5, v6], (.ref x :: st), w) := (zE_ (i := .aload_n 0) (by decide +kernel) _ _ _).trans rfl
theorem e122_24 (ls : List Value) (a : Nat) (st : List Value) (w : zH) : zrun none (122, 24, ls, (.ref a :: st), w) = zo (zf w a 1104) (fun x => zrun none (122, 27, ls, (x :: st), w)) := (zE_ (i := .getfield 1104) (by decide +kernel) _ _ _).trans zq_getf
theorem e122_27 (ls st : List Value) (w : zH) : zrun none (122, 27, ls, st, w) = zrun none (122, 30, ls, (.ref 1000001 :: st), w) := (zE_ (i := .ldc 1) (by decide +kernel) _ _ _).trans rfl
theorem e122_30 (ls : List Value) (a : Nat) (x0 : Nat) (st : List Value) (w : zH) (hr : zcat st ≤ 8) : zrun none (122, 30, ls, (.ref x0 :: .ref a :: st), w) = zgd (zis w a 9) (zcl (zrun none (58, 0, [.ref a, .ref x0, zJ], [], w)) (fun r => zrun none (122, 33, ls, r.1.toList ++ st, r.2))) := by
  refine (zE_ (i := .invokevirtual 58) (by decide +kernel) _ _ _).trans ?_
  show zres (zinv none 58 122 30 ls (.ref x0 :: .ref a :: st) w) = _
  unfold zinv
  show zres (if zrc none 58 w (.ref a) = true then zcall 58 [.ref a, .ref x0] st 122 30 ls w else none) = _
  by_cases hc : zis w a 9
  · rw [if_pos (zrc_is hc (by decide +kernel)), zgd_pos hc]
    exact zq_call hr (Nat.le_of_ble_eq_true rfl) rfl rfl
  · rw [zgd_neg hc, if_neg (fun q => hc (zrc_of q (by decide +kernel)))]
    rfl
theorem e122_33 (ls : List Value) (x : Int32) (st : List Value) (w : zH) : zrun none (122, 33, ls, (.int x :: st), w) = zrun none (122, 34, ls, st, w) := (zE_ (i := .pop) (by decide +kernel) _ _ _).trans rfl
theorem e122_34 (v1 v2 v3 v4 v5 v6 : Value) (x : Nat) (st : List Value) (w : zH) : zrun none (122, 34, [.ref x, v1, v2, v3, v4, v5, v6], st, w) = zrun none (122, 35, [.ref x, v1, v2, v3, v4, v5, v6], (.ref x :: st), w) := (zE_ (i := .aload_n 0) (by decide +kernel) _ _ _).trans rfl
theorem e122_35 (ls : List Value) (a : Nat) (st : List Value) (w : zH) : zrun none (122, 35, ls, (.ref a :: st), w) = zo (zf w a 1104) (fun x => zrun none (122, 38, ls, (x :: st), w)) := (zE_ (i := .getfield 1104) (by decide +kernel) _ _ _).trans zq_getf
theorem e122_38 (ls st : List Value) (w : zH) : zrun none (122, 38, ls, st, w) = zrun none (122, 39, ls, (.int 1 :: st), w) := (zE_ (i := .iconst 1) (by decide +kernel) _ _ _).trans rfl
theorem e122_39 (ls st : List Value) (w : zH) : zrun none (122, 39, ls, st, w) = zrun none (122, 40, ls, (.int 3 :: st), w) := (zE_ (i := .iconst 3) (by decide +kernel) _ _ _).trans rfl
theorem e122_40 (ls : List Value) (a : Nat) (x0 : Int32) (x1 : Int32) (st : List Value) (w : zH) (hr : zcat st ≤ 8) : zrun none (122, 40, ls, (.int x1 :: .int x0 :: .ref a :: st), w) = zgd (zis w a 9) (zcl (zrun none (60, 0, [.ref a, .int x0, .int x1, zJ], [], w)) (fun r => zrun none (122, 43, ls, r.1.toList ++ st, r.2))) := by
  refine (zE_ (i := .invokevirtual 60) (by decide +kernel) _ _ _).trans ?_
  show zres (zinv none 60 122 40 ls (.int x1 :: .int x0 :: .ref a :: st) w) = _
  unfold zinv
  show zres (if zrc none 60 w (.ref a) = true then zcall 60 [.ref a, .int x0, .int x1] st 122 40 ls w else none) = _
  by_cases hc : zis w a 9
  · rw [if_pos (zrc_is hc (by decide +kernel)), zgd_pos hc]
    exact zq_call hr (Nat.le_of_ble_eq_true rfl) rfl rfl
  · rw [zgd_neg hc, if_neg (fun q => hc (zrc_of q (by decide +kernel)))]
    rfl
theorem e122_43 (v0 v1 v2 v3 v4 v5 v6 : Value) (x : Int32) (st : List Value) (w : zH) (h : v1.category = 1) : zrun none (122, 43, [v0, v1, v2, v3, v4, v5, v6], (.int x :: st), w) = zrun none (122, 44, [v0, v1, .int x, v3, v4, v5, v6], st, w) := by
  refine (zE_ (i := .istore_n 2) (by decide +kernel) _ _ _).trans ?_
  have hz : zfree [v0, v1, v2, v3, v4, v5, v6] 2 = true := by show decide (v1.category = 1) = true; exact decide_eq_true h
  show zres (zst zint 2 1 122 43 [v0, v1, v2, v3, v4, v5, v6] (.int x :: st) w) = _
  unfold zst
  dsimp only
  rw [if_pos ⟨rfl, Nat.le_of_ble_eq_true rfl, hz⟩]
  rfl
theorem e122_44 (v1 v2 v3 v4 v5 v6 : Value) (x : Nat) (st : List Value) (w : zH) : zrun none (122, 44, [.ref x, v1, v2, v3, v4, v5, v6], st, w) = zrun none (122, 45, [.ref x, v1, v2, v3, v4, v5, v6], (.ref x :: st), w) := (zE_ (i := .aload_n 0) (by decide +kernel) _ _ _).trans rfl
theorem e122_45 (ls : List Value) (a : Nat) (st : List Value) (w : zH) : zrun none (122, 45, ls, (.ref a :: st), w) = zo (zf w a 1104) (fun x => zrun none (122, 48, ls, (x :: st), w)) := (zE_ (i := .getfield 1104) (by decide +kernel) _ _ _).trans zq_getf
theorem e122_48 (ls st : List Value) (w : zH) : zrun none (122, 48, ls, st, w) = zrun none (122, 51, ls, (.ref 1000002 :: st), w) := (zE_ (i := .ldc 2) (by decide +kernel) _ _ _).trans rfl
theorem e122_51 (ls : List Value) (a : Nat) (x0 : Nat) (st : List Value) (w : zH) (hr : zcat st ≤ 8) : zrun none (122, 51, ls, (.ref x0 :: .ref a :: st), w) = zgd (zis w a 9) (zcl (zrun none (58, 0, [.ref a, .ref x0, zJ], [], w)) (fun r => zrun none (122, 54, ls, r.1.toList ++ st, r.2))) := by
  refine (zE_ (i := .invokevirtual 58) (by decide +kernel) _ _ _).trans ?_
  show zres (zinv none 58 122 51 ls (.ref x0 :: .ref a :: st) w) = _
  unfold zinv
  show zres (if zrc none 58 w (.ref a) = true then zcall 58 [.ref a, .ref x0] st 122 51 ls w else none) = _
  by_cases hc : zis w a 9
  · rw [if_pos (zrc_is hc (by decide +kernel)), zgd_pos hc]
    exact zq_call hr (Nat.le_of_ble_eq_true rfl) rfl rfl
  · rw [zgd_neg hc, if_neg (fun q => hc (zrc_of q (by decide +kernel)))]
    rfl
theorem e122_54 (v0 v1 v2 v3 v4 v5 v6 : Value) (x : Int32) (st : List Value) (w : zH) (h : v2.category = 1) : zrun none (122, 54, [v0, v1, v2, v3, v4, v5, v6], (.int x :: st), w) = zrun none (122, 55, [v0, v1, v2, .int x, v4, v5, v6], st, w) := by
  refine (zE_ (i := .istore_n 3) (by decide +kernel) _ _ _).trans ?_
  have hz : zfree [v0, v1, v2, v3, v4, v5, v6] 3 = true := by show decide (v2.category = 1) = true; exact decide_eq_true h
  show zres (zst zint 3 1 122 54 [v0, v1, v2, v3, v4, v5, v6] (.int x :: st) w) = _
  unfold zst
  dsimp only
  rw [if_pos ⟨rfl, Nat.le_of_ble_eq_true rfl, hz⟩]
  rfl
theorem e122_55 (v1 v2 v3 v4 v5 v6 : Value) (x : Nat) (st : List Value) (w : zH) : zrun none (122, 55, [.ref x, v1, v2, v3, v4, v5, v6], st, w) = zrun none (122, 56, [.ref x, v1, v2, v3, v4, v5, v6], (.ref x :: st), w) := (zE_ (i := .aload_n 0) (by decide +kernel) _ _ _).trans rfl
theorem e122_56 (ls : List Value) (a : Nat) (st : List Value) (w : zH) : zrun none (122, 56, ls, (.ref a :: st), w) = zo (zf w a 1104) (fun x => zrun none (122, 59, ls, (x :: st), w)) := (zE_ (i := .getfield 1104) (by decide +kernel) _ _ _).trans zq_getf
theorem e122_59 (ls st : List Value) (w : zH) : zrun none (122, 59, ls, st, w) = zrun none (122, 62, ls, (.ref 1000003 :: st), w) := (zE_ (i := .ldc 3) (by decide +kernel) _ _ _).trans rfl
theorem e122_62 (ls : List Value) (a : Nat) (x0 : Nat) (st : List Value) (w : zH) (hr : zcat st ≤ 8) : zrun none (122, 62, ls, (.ref x0 :: .ref a :: st), w) = zgd (zis w a 9) (zcl (zrun none (58, 0, [.ref a, .ref x0, zJ], [], w)) (fun r => zrun none (122, 65, ls, r.1.toList ++ st, r.2))) := by
  refine (zE_ (i := .invokevirtual 58) (by decide +kernel) _ _ _).trans ?_
  show zres (zinv none 58 122 62 ls (.ref x0 :: .ref a :: st) w) = _
  unfold zinv
  show zres (if zrc none 58 w (.ref a) = true then zcall 58 [.ref a, .ref x0] st 122 62 ls w else none) = _
  by_cases hc : zis w a 9
  · rw [if_pos (zrc_is hc (by decide +kernel)), zgd_pos hc]
    exact zq_call hr (Nat.le_of_ble_eq_true rfl) rfl rfl
  · rw [zgd_neg hc, if_neg (fun q => hc (zrc_of q (by decide +kernel)))]
    rfl
theorem e122_65 (v0 v1 v2 v3 v4 v5 v6 : Value) (x : Int32) (st : List Value) (w : zH) (h : v3.category = 1) : zrun none (122, 65, [v0, v1, v2, v3, v4, v5, v6], (.int x :: st), w) = zrun none (122, 67, [v0, v1, v2, v3, .int x, v5, v6], st, w) := by
  refine (zE_ (i := .istore 4) (by decide +kernel) _ _ _).trans ?_
  have hz : zfree [v0, v1, v2, v3, v4, v5, v6] 4 = true := by show decide (v3.category = 1) = true; exact decide_eq_true h
  show zres (zst zint 4 2 122 65 [v0, v1, v2, v3, v4, v5, v6] (.int x :: st) w) = _
  unfold zst
  dsimp only
  rw [if_pos ⟨rfl, Nat.le_of_ble_eq_true rfl, hz⟩]
  rfl
theorem e122_67 (ls st : List Value) (w : zH) : zrun none (122, 67, ls, st, w) = zrun none (122, 68, ls, (.int 0 :: st), w) := (zE_ (i := .iconst 0) (by decide +kernel) _ _ _).trans rfl
theorem e122_68 (v0 v1 v2 v3 v4 v5 v6 : Value) (x : Int32) (st : List Value) (w : zH) (h : v4.category = 1) : zrun none (122, 68, [v0, v1, v2, v3, v4, v5, v6], (.int x :: st), w) = zrun none (122, 70, [v0, v1, v2, v3, v4, .int x, v6], st, w) := by
  refine (zE_ (i := .istore 5) (by decide +kernel) _ _ _).trans ?_
  have hz : zfree [v0, v1, v2, v3, v4, v5, v6] 5 = true := by show decide (v4.category = 1) = true; exact decide_eq_true h
  show zres (zst zint 5 2 122 68 [v0, v1, v2, v3, v4, v5, v6] (.int x :: st) w) = _
  unfold zst
  dsimp only
  rw [if_pos ⟨rfl, Nat.le_of_ble_eq_true rfl, hz⟩]
  rfl
theorem e122_70 (v1 v2 v3 v4 v5 v6 : Value) (x : Nat) (st : List Value) (w : zH) : zrun none (122, 70, [.ref x, v1, v2, v3, v4, v5, v6], st, w) = zrun none (122, 71, [.ref x, v1, v2, v3, v4, v5, v6], (.ref x :: st), w) := (zE_ (i := .aload_n 0) (by decide +kernel) _ _ _).trans rfl
theorem e122_71 (ls : List Value) (a : Nat) (st : List Value) (w : zH) : zrun none (122, 71, ls, (.ref a :: st), w) = zo (zf w a 1104) (fun x => zrun none (122, 74, ls, (x :: st), w)) := (zE_ (i := .getfield 1104) (by decide +kernel) _ _ _).trans zq_getf
theorem e122_74 (ls st : List Value) (w : zH) : zrun none (122, 74, ls, st, w) = zrun none (122, 77, ls, (.ref 1000004 :: st), w) := (zE_ (i := .ldc 4) (by decide +kernel) _ _ _).trans rfl
theorem e122_77 (ls : List Value) (a : Nat) (x0 : Nat) (st : List Value) (w : zH) (hr : zcat st ≤ 8) : zrun none (122, 77, ls, (.ref x0 :: .ref a :: st), w) = zgd (zis w a 9) (zcl (zrun none (57, 0, [.ref a, .ref x0], [], w)) (fun r => zrun none (122, 80, ls, r.1.toList ++ st, r.2))) := by
  refine (zE_ (i := .invokevirtual 57) (by decide +kernel) _ _ _).trans ?_
  show zres (zinv none 57 122 77 ls (.ref x0 :: .ref a :: st) w) = _
  unfold zinv
  show zres (if zrc none 57 w (.ref a) = true then zcall 57 [.ref a, .ref x0] st 122 77 ls w else none) = _
  by_cases hc : zis w a 9
  · rw [if_pos (zrc_is hc (by decide +kernel)), zgd_pos hc]
    exact zq_call hr (Nat.le_of_ble_eq_true rfl) rfl rfl
  · rw [zgd_neg hc, if_neg (fun q => hc (zrc_of q (by decide +kernel)))]
    rfl
theorem e122_80 (ls : List Value) (a : Int32) (st : List Value) (w : zH) : zrun none (122, 80, ls, (.int a :: st), w) = if a = 0 then zrun none (122, 107, ls, st, w) else zrun none (122, 83, ls, st, w) := (zE_ (i := .ifCond .eq 27) (by decide +kernel) _ _ _).trans (zq_if_eq rfl rfl)
theorem e122_83 (v1 v2 v3 v4 v5 v6 : Value) (x : Nat) (st : List Value) (w : zH) : zrun none (122, 83, [.ref x, v1, v2, v3, v4, v5, v6], st, w) = zrun none (122, 84, [.ref x, v1, v2, v3, v4, v5, v6], (.ref x :: st), w) := (zE_ (i := .aload_n 0) (by decide +kernel) _ _ _).trans rfl
theorem e122_84 (ls : List Value) (a : Nat) (st : List Value) (w : zH) : zrun none (122, 84, ls, (.ref a :: st), w) = zo (zf w a 1104) (fun x => zrun none (122, 87, ls, (x :: st), w)) := (zE_ (i := .getfield 1104) (by decide +kernel) _ _ _).trans zq_getf
theorem e122_87 (ls st : List Value) (w : zH) : zrun none (122, 87, ls, st, w) = zrun none (122, 90, ls, (.ref 1000004 :: st), w) := (zE_ (i := .ldc 4) (by decide +kernel) _ _ _).trans rfl
theorem e122_90 (ls : List Value) (a : Nat) (x0 : Nat) (st : List Value) (w : zH) (hr : zcat st ≤ 8) : zrun none (122, 90, ls, (.ref x0 :: .ref a :: st), w) = zgd (zis w a 9) (zcl (zrun none (58, 0, [.ref a, .ref x0, zJ], [], w)) (fun r => zrun none (122, 93, ls, r.1.toList ++ st, r.2))) := by
  refine (zE_ (i := .invokevirtual 58) (by decide +kernel) _ _ _).trans ?_
  show zres (zinv none 58 122 90 ls (.ref x0 :: .ref a :: st) w) = _
  unfold zinv
  show zres (if zrc none 58 w (.ref a) = true then zcall 58 [.ref a, .ref x0] st 122 90 ls w else none) = _
  by_cases hc : zis w a 9
  · rw [if_pos (zrc_is hc (by decide +kernel)), zgd_pos hc]
    exact zq_call hr (Nat.le_of_ble_eq_true rfl) rfl rfl
  · rw [zgd_neg hc, if_neg (fun q => hc (zrc_of q (by decide +kernel)))]
    rfl
theorem e122_93 (ls : List Value) (x : Int32) (st : List Value) (w : zH) : zrun none (122, 93, ls, (.int x :: st), w) = zrun none (122, 94, ls, st, w) := (zE_ (i := .pop) (by decide +kernel) _ _ _).trans rfl
theorem e122_94 (v1 v2 v3 v4 v5 v6 : Value) (x : Nat) (st : List Value) (w : zH) : zrun none (122, 94, [.ref x, v1, v2, v3, v4, v5, v6], st, w) = zrun none (122, 95, [.ref x, v1, v2, v3, v4, v5, v6], (.ref x :: st), w) := (zE_ (i := .aload_n 0) (by decide +kernel) _ _ _).trans rfl
theorem e122_95 (ls : List Value) (a : Nat) (st : List Value) (w : zH) : zrun none (122, 95, ls, (.ref a :: st), w) = zo (zf w a 1104) (fun x => zrun none (122, 98, ls, (x :: st), w)) := (zE_ (i := .getfield 1104) (by decide +kernel) _ _ _).trans zq_getf
theorem e122_98 (ls st : List Value) (w : zH) : zrun none (122, 98, ls, st, w) = zrun none (122, 99, ls, (.int 0 :: st), w) := (zE_ (i := .iconst 0) (by decide +kernel) _ _ _).trans rfl
theorem e122_99 (ls st : List Value) (w : zH) : zrun none (122, 99, ls, st, w) = zrun none (122, 102, ls, (.int 999 :: st), w) := (zE_ (i := .sipush 999) (by decide +kernel) _ _ _).trans rfl
theorem e122_102 (ls : List Value) (a : Nat) (x0 : Int32) (x1 : Int32) (st : List Value) (w : zH) (hr : zcat st ≤ 8) : zrun none (122, 102, ls, (.int x1 :: .int x0 :: .ref a :: st), w) = zgd (zis w a 9) (zcl (zrun none (60, 0, [.ref a, .int x0, .int x1, zJ], [], w)) (fun r => zrun none (122, 105, ls, r.1.toList ++ st, r.2))) := by
  refine (zE_ (i := .invokevirtual 60) (by decide +kernel) _ _ _).trans ?_
  show zres (zinv none 60 122 102 ls (.int x1 :: .int x0 :: .ref a :: st) w) = _
  unfold zinv
  show zres (if zrc none 60 w (.ref a) = true then zcall 60 [.ref a, .int x0, .int x1] st 122 102 ls w else none) = _
  by_cases hc : zis w a 9
  · rw [if_pos (zrc_is hc (by decide +kernel)), zgd_pos hc]
    exact zq_call hr (Nat.le_of_ble_eq_true rfl) rfl rfl
  · rw [zgd_neg hc, if_neg (fun q => hc (zrc_of q (by decide +kernel)))]
    rfl
theorem e122_105 (v0 v1 v2 v3 v4 v5 v6 : Value) (x : Int32) (st : List Value) (w : zH) (h : v4.category = 1) : zrun none (122, 105, [v0, v1, v2, v3, v4, v5, v6], (.int x :: st), w) = zrun none (122, 107, [v0, v1, v2, v3, v4, .int x, v6], st, w) := by
  refine (zE_ (i := .istore 5) (by decide +kernel) _ _ _).trans ?_
  have hz : zfree [v0, v1, v2, v3, v4, v5, v6] 5 = true := by show decide (v4.category = 1) = true; exact decide_eq_true h
  show zres (zst zint 5 2 122 105 [v0, v1, v2, v3, v4, v5, v6] (.int x :: st) w) = _
  unfold zst
  dsimp only
  rw [if_pos ⟨rfl, Nat.le_of_ble_eq_true rfl, hz⟩]
  rfl
theorem e122_107 (v1 v2 v3 v4 v5 v6 : Value) (x : Nat) (st : List Value) (w : zH) : zrun none (122, 107, [.ref x, v1, v2, v3, v4, v5, v6], st, w) = zrun none (122, 108, [.ref x, v1, v2, v3, v4, v5, v6], (.ref x :: st), w) := (zE_ (i := .aload_n 0) (by decide +kernel) _ _ _).trans rfl
theorem e122_108 (ls : List Value) (a : Nat) (st : List Value) (w : zH) : zrun none (122, 108, ls, (.ref a :: st), w) = zo (zf w a 1104) (fun x => zrun none (122, 111, ls, (x :: st), w)) := (zE_ (i := .getfield 1104) (by decide +kernel) _ _ _).trans zq_getf
theorem e122_111 (ls st : List Value) (w : zH) : zrun none (122, 111, ls, st, w) = zrun none (122, 114, ls, (.ref 1000005 :: st), w) := (zE_ (i := .ldc 5) (by decide +kernel) _ _ _).trans rfl
theorem e122_114 (ls : List Value) (a : Nat) (x0 : Nat) (st : List Value) (w : zH) (hr : zcat st ≤ 8) : zrun none (122, 114, ls, (.ref x0 :: .ref a :: st), w) = zgd (zis w a 9) (zcl (zrun none (58, 0, [.ref a, .ref x0, zJ], [], w)) (fun r => zrun none (122, 117, ls, r.1.toList ++ st, r.2))) := by
  refine (zE_ (i := .invokevirtual 58) (by decide +kernel) _ _ _).trans ?_
  show zres (zinv none 58 122 114 ls (.ref x0 :: .ref a :: st) w) = _
  unfold zinv
  show zres (if zrc none 58 w (.ref a) = true then zcall 58 [.ref a, .ref x0] st 122 114 ls w else none) = _
  by_cases hc : zis w a 9
  · rw [if_pos (zrc_is hc (by decide +kernel)), zgd_pos hc]
    exact zq_call hr (Nat.le_of_ble_eq_true rfl) rfl rfl
  · rw [zgd_neg hc, if_neg (fun q => hc (zrc_of q (by decide +kernel)))]
    rfl
theorem e122_117 (ls : List Value) (a : Int32) (st : List Value) (w : zH) : zrun none (122, 117, ls, (.int a :: st), w) = if a = 0 then zrun none (122, 120, ls, st, w) else zrun none (122, 124, ls, st, w) := (zE_ (i := .ifCond .ne 7) (by decide +kernel) _ _ _).trans (zq_if_ne rfl rfl)
theorem e122_120 (ls st : List Value) (w : zH) : zrun none (122, 120, ls, st, w) = zrun none (122, 121, ls, (.int 1 :: st), w) := (zE_ (i := .iconst 1) (by decide +kernel) _ _ _).trans rfl
theorem e122_121 (ls st : List Value) (w : zH) : zrun none (122, 121, ls, st, w) = zrun none (122, 125, ls, st, w) := (zE_ (i := .goto 4) (by decide +kernel) _ _ _).trans rfl
theorem e122_124 (ls st : List Value) (w : zH) : zrun none (122, 124, ls, st, w) = zrun none (122, 125, ls, (.int 0 :: st), w) := (zE_ (i := .iconst 0) (by decide +kernel) _ _ _).trans rfl
theorem e122_125 (v0 v1 v2 v3 v4 v5 v6 : Value) (x : Int32) (st : List Value) (w : zH) (h : v5.category = 1) : zrun none (122, 125, [v0, v1, v2, v3, v4, v5, v6], (.int x :: st), w) = zrun none (122, 127, [v0, v1, v2, v3, v4, v5, .int x], st, w) := by
  refine (zE_ (i := .istore 6) (by decide +kernel) _ _ _).trans ?_
  have hz : zfree [v0, v1, v2, v3, v4, v5, v6] 6 = true := by show decide (v5.category = 1) = true; exact decide_eq_true h
  show zres (zst zint 6 2 122 125 [v0, v1, v2, v3, v4, v5, v6] (.int x :: st) w) = _
  unfold zst
  dsimp only
  rw [if_pos ⟨rfl, Nat.le_of_ble_eq_true rfl, hz⟩]
  rfl
theorem e122_127 (v1 v2 v3 v4 v5 v6 : Value) (x : Nat) (st : List Value) (w : zH) : zrun none (122, 127, [.ref x, v1, v2, v3, v4, v5, v6], st, w) = zrun none (122, 128, [.ref x, v1, v2, v3, v4, v5, v6], (.ref x :: st), w) := (zE_ (i := .aload_n 0) (by decide +kernel) _ _ _).trans rfl
theorem e122_128 (ls : List Value) (a : Nat) (st : List Value) (w : zH) : zrun none (122, 128, ls, (.ref a :: st), w) = zo (zf w a 1104) (fun x => zrun none (122, 131, ls, (x :: st), w)) := (zE_ (i := .getfield 1104) (by decide +kernel) _ _ _).trans zq_getf
theorem e122_131 (ls : List Value) (a : Nat) (st : List Value) (w : zH) (hr : zcat st ≤ 8) : zrun none (122, 131, ls, (.ref a :: st), w) = zgd (zis w a 9) (zcl (zrun none (62, 0, [.ref a], [], w)) (fun r => zrun none (122, 134, ls, r.1.toList ++ st, r.2))) := by
  refine (zE_ (i := .invokevirtual 62) (by decide +kernel) _ _ _).trans ?_
  show zres (zinv none 62 122 131 ls (.ref a :: st) w) = _
  unfold zinv
  show zres (if zrc none 62 w (.ref a) = true then zcall 62 [.ref a] st 122 131 ls w else none) = _
  by_cases hc : zis w a 9
  · rw [if_pos (zrc_is hc (by decide +kernel)), zgd_pos hc]
    exact zq_call hr (Nat.le_of_ble_eq_true rfl) rfl rfl
  · rw [zgd_neg hc, if_neg (fun q => hc (zrc_of q (by decide +kernel)))]
    rfl
theorem e122_134 (v1 v2 v3 v4 v5 v6 : Value) (x : Nat) (st : List Value) (w : zH) : zrun none (122, 134, [.ref x, v1, v2, v3, v4, v5, v6], st, w) = zrun none (122, 135, [.ref x, v1, v2, v3, v4, v5, v6], (.ref x :: st), w) := (zE_ (i := .aload_n 0) (by decide +kernel) _ _ _).trans rfl
theorem e122_135 (ls : List Value) (a : Nat) (st : List Value) (w : zH) : zrun none (122, 135, ls, (.ref a :: st), w) = zo (zf w a 1104) (fun x => zrun none (122, 138, ls, (x :: st), w)) := (zE_ (i := .getfield 1104) (by decide +kernel) _ _ _).trans zq_getf
theorem e122_138 (ls : List Value) (a : Nat) (st : List Value) (w : zH) : zrun none (122, 138, ls, (.ref a :: st), w) = zo (zf w a 905) (fun x => zrun none (122, 141, ls, (x :: st), w)) := (zE_ (i := .getfield 905) (by decide +kernel) _ _ _).trans zq_getf
theorem e122_141 (ls : List Value) (a : Int32) (st : List Value) (w : zH) : zrun none (122, 141, ls, (.int a :: st), w) = if a = 0 then zrun none (122, 148, ls, st, w) else zrun none (122, 144, ls, st, w) := (zE_ (i := .ifCond .eq 7) (by decide +kernel) _ _ _).trans (zq_if_eq rfl rfl)
theorem e122_144 (ls st : List Value) (w : zH) : zrun none (122, 144, ls, st, w) = zrun none (122, 145, ls, (.null :: st), w) := (zE_ (i := .aconst_null) (by decide +kernel) _ _ _).trans rfl
theorem e122_145 (ls st : List Value) (w : zH) : zrun none (122, 145, ls, st, w) = zrun none (122, 164, ls, st, w) := (zE_ (i := .goto 19) (by decide +kernel) _ _ _).trans rfl
theorem e122_148 (ls st : List Value) (w : zH) : zrun none (122, 148, ls, st, w) = zgd (w.length + 1 < zX) (zrun none (122, 151, ls, (.ref w.length :: st), w ++ [(0, [.int 0, .int 0, .int 0, .int 0, .int 0, .int 0])])) := by
  refine (zE_ (i := .new 0) (by decide +kernel) _ _ _).trans ?_
  simp only [zI]
  rw [if_pos (by decide)]
  unfold znw
  by_cases h : w.length + 1 < zX
  · rw [if_pos h, zgd_pos h]
    rfl
  · rw [if_neg h, zgd_neg h]
    rfl
theorem e122_151 (ls : List Value) (x : Int32) (st : List Value) (w : zH) : zrun none (122, 151, ls, (.int x :: st), w) = zrun none (122, 152, ls, (.int x :: .int x :: st), w) := (zE_ (i := .dup) (by decide +kernel) _ _ _).trans rfl
theorem e122_151r (ls : List Value) (x : Nat) (st : List Value) (w : zH) : zrun none (122, 151, ls, (.ref x :: st), w) = zrun none (122, 152, ls, (.ref x :: .ref x :: st), w) := (zE_ (i := .dup) (by decide +kernel) _ _ _).trans rfl
theorem e122_152 (v0 v2 v3 v4 v5 v6 : Value) (x : Int32) (st : List Value) (w : zH) : zrun none (122, 152, [v0, .int x, v2, v3, v4, v5, v6], st, w) = zrun none (122, 153, [v0, .int x, v2, v3, v4, v5, v6], (.int x :: st), w) := (zE_ (i := .iload_n 1) (by decide +kernel) _ _ _).trans rfl
theorem e122_153 (v0 v1 v3 v4 v5 v6 : Value) (x : Int32) (st : List Value) (w : zH) : zrun none (122, 153, [v0, v1, .int x, v3, v4, v5, v6], st, w) = zrun none (122, 154, [v0, v1, .int x, v3, v4, v5, v6], (.int x :: st), w) := (zE_ (i := .iload_n 2) (by decide +kernel) _ _ _).trans rfl
theorem e122_154 (v0 v1 v2 v4 v5 v6 : Value) (x : Int32) (st : List Value) (w : zH) : zrun none (122, 154, [v0, v1, v2, .int x, v4, v5, v6], st, w) = zrun none (122, 155, [v0, v1, v2, .int x, v4, v5, v6], (.int x :: st), w) := (zE_ (i := .iload_n 3) (by decide +kernel) _ _ _).trans rfl
theorem e122_155 (v0 v1 v2 v3 v5 v6 : Value) (x : Int32) (st : List Value) (w : zH) : zrun none (122, 155, [v0, v1, v2, v3, .int x, v5, v6], st, w) = zrun none (122, 157, [v0, v1, v2, v3, .int x, v5, v6], (.int x :: st), w) := (zE_ (i := .iload 4) (by decide +kernel) _ _ _).trans rfl
theorem e122_157 (v0 v1 v2 v3 v4 v6 : Value) (x : Int32) (st : List Value) (w : zH) : zrun none (122, 157, [v0, v1, v2, v3, v4, .int x, v6], st, w) = zrun none (122, 159, [v0, v1, v2, v3, v4, .int x, v6], (.int x :: st), w) := (zE_ (i := .iload 5) (by decide +kernel) _ _ _).trans rfl
theorem e122_159 (v0 v1 v2 v3 v4 v5 : Value) (x : Int32) (st : List Value) (w : zH) : zrun none (122, 159, [v0, v1, v2, v3, v4, v5, .int x], st, w) = zrun none (122, 161, [v0, v1, v2, v3, v4, v5, .int x], (.int x :: st), w) := (zE_ (i := .iload 6) (by decide +kernel) _ _ _).trans rfl
theorem e122_161 (ls : List Value) (a : Nat) (x0 : Int32) (x1 : Int32) (x2 : Int32) (x3 : Int32) (x4 : Int32) (x5 : Int32) (st : List Value) (w : zH) (hr : zcat st ≤ 8) : zrun none (122, 161, ls, (.int x5 :: .int x4 :: .int x3 :: .int x2 :: .int x1 :: .int x0 :: .ref a :: st), w) = zgd (zis w a 0) (zcl (zrun none (0, 0, [.ref a, .int x0, .int x1, .int x2, .int x3, .int x4, .int x5], [], w)) (fun r => zrun none (122, 164, ls, r.1.toList ++ st, r.2))) := by
  refine (zE_ (i := .invokespecial 0) (by decide +kernel) _ _ _).trans ?_
  show zres (zinv none 0 122 161 ls (.int x5 :: .int x4 :: .int x3 :: .int x2 :: .int x1 :: .int x0 :: .ref a :: st) w) = _
  unfold zinv
  show zres (if zrc none 0 w (.ref a) = true then zcall 0 [.ref a, .int x0, .int x1, .int x2, .int x3, .int x4, .int x5] st 122 161 ls w else none) = _
  by_cases hc : zis w a 0
  · rw [if_pos (zrc_is hc (by decide +kernel)), zgd_pos hc]
    exact zq_call hr (Nat.le_of_ble_eq_true rfl) rfl rfl
  · rw [zgd_neg hc, if_neg (fun q => hc (zrc_of q (by decide +kernel)))]
    rfl
theorem e122_164 (ls : List Value) (x : Nat) (w : zH) : zrun none (122, 164, ls, [.ref x], w) = some (some (.ref x), w) := (zE_ (i := .areturn) (by decide +kernel) _ _ _).trans rfl
theorem e122_164n (ls : List Value) (w : zH) : zrun none (122, 164, ls, [.null], w) = some (some (.null), w) := (zE_ (i := .areturn) (by decide +kernel) _ _ _).trans rfl
theorem e123_0 (v1 v2 v3 v4 v5 v6 v7 v8 : Value) (x : Nat) (st : List Value) (w : zH) : zrun none (123, 0, [.ref x, v1, v2, v3, v4, v5, v6, v7, v8], st, w) = zrun none (123, 1, [.ref x, v1, v2, v3, v4, v5, v6, v7, v8], (.ref x :: st), w) := (zE_ (i := .aload_n 0) (by decide +kernel) _ _ _).trans rfl
theorem e123_1 (v0 v2 v3 v4 v5 v6 v7 v8 : Value) (x : Nat) (st : List Value) (w : zH) : zrun none (123, 1, [v0, .ref x, v2, v3, v4, v5, v6, v7, v8], st, w) = zrun none (123, 2, [v0, .ref x, v2, v3, v4, v5, v6, v7, v8], (.ref x :: st), w) := (zE_ (i := .aload_n 1) (by decide +kernel) _ _ _).trans rfl
theorem e123_1n (v0 v2 v3 v4 v5 v6 v7 v8 : Value) (st : List Value) (w : zH) : zrun none (123, 1, [v0, .null, v2, v3, v4, v5, v6, v7, v8], st, w) = zrun none (123, 2, [v0, .null, v2, v3, v4, v5, v6, v7, v8], (.null :: st), w) := (zE_ (i := .aload_n 1) (by decide +kernel) _ _ _).trans rfl
theorem e123_2 (v0 v1 v2 v4 v5 v6 v7 v8 : Value) (x : Int32) (st : List Value) (w : zH) : zrun none (123, 2, [v0, v1, v2, .int x, v4, v5, v6, v7, v8], st, w) = zrun none (123, 3, [v0, v1, v2, .int x, v4, v5, v6, v7, v8], (.int x :: st), w) := (zE_ (i := .iload_n 3) (by decide +kernel) _ _ _).trans rfl
theorem e123_3 (ls : List Value) (a : Nat) (x0 : Nat) (x1 : Int32) (st : List Value) (w : zH) (hr : zcat st ≤ 8) : zrun none (123, 3, ls, (.int x1 :: .ref x0 :: .ref a :: st), w) = zgd (zis w a 11) (zcl (zrun none (116, 0, [.ref a, .ref x0, .int x1], [], w)) (fun r => zrun none (123, 6, ls, r.1.toList ++ st, r.2))) := by
  refine (zE_ (i := .invokevirtual 116) (by decide +kernel) _ _ _).trans ?_
  show zres (zinv none 116 123 3 ls (.int x1 :: .ref x0 :: .ref a :: st) w) = _
  unfold zinv
  show zres (if zrc none 116 w (.ref a) = true then zcall 116 [.ref a, .ref x0, .int x1] st 123 3 ls w else none) = _
  by_cases hc : zis w a 11
  · rw [if_pos (zrc_is hc (by decide +kernel)), zgd_pos hc]
    exact zq_call hr (Nat.le_of_ble_eq_true rfl) rfl rfl
  · rw [zgd_neg hc, if_neg (fun q => hc (zrc_of q (by decide +kernel)))]
    rfl
theorem e123_6 (v0 v1 v2 v3 v4 v5 v6 v7 v8 : Value) (x : Int32) (st : List Value) (w : zH) (h : v3.category = 1) : zrun none (123, 6, [v0, v1, v2, v3, v4, v5, v6, v7, v8], (.int x :: st), w) = zrun none (123, 8, [v0, v1, v2, v3, .int x, v5, v6, v7, v8], st, w) := by
  refine (zE_ (i := .istore 4) (by decide +kernel) _ _ _).trans ?_
  have hz : zfree [v0, v1, v2, v3, v4, v5, v6, v7, v8] 4 = true := by show decide (v3.category = 1) = true; exact decide_eq_true h
  show zres (zst zint 4 2 123 6 [v0, v1, v2, v3, v4, v5, v6, v7, v8] (.int x :: st) w) = _
  unfold zst
  dsimp only
  rw [if_pos ⟨rfl, Nat.le_of_ble_eq_true rfl, hz⟩]
  rfl
theorem e123_8 (ls st : List Value) (w : zH) : zrun none (123, 8, ls, st, w) = zrun none (123, 9, ls, (.int (-1) :: st), w) := (zE_ (i := .iconst (-1)) (by decide +kernel) _ _ _).trans rfl
theorem e123_9 (v0 v1 v2 v3 v4 v5 v6 v7 v8 : Value) (x : Int32) (st : List Value) (w : zH) (h : v4.category = 1) : zrun none (123, 9, [v0, v1, v2, v3, v4, v5, v6, v7, v8], (.int x :: st), w) = zrun none (123, 11, [v0, v1, v2, v3, v4, .int x, v6, v7, v8], st, w) := by
  refine (zE_ (i := .istore 5) (by decide +kernel) _ _ _).trans ?_
  have hz : zfree [v0, v1, v2, v3, v4, v5, v6, v7, v8] 5 = true := by show decide (v4.category = 1) = true; exact decide_eq_true h
  show zres (zst zint 5 2 123 9 [v0, v1, v2, v3, v4, v5, v6, v7, v8] (.int x :: st) w) = _
  unfold zst
  dsimp only
  rw [if_pos ⟨rfl, Nat.le_of_ble_eq_true rfl, hz⟩]
  rfl
theorem e123_11 (ls st : List Value) (w : zH) : zrun none (123, 11, ls, st, w) = zrun none (123, 14, ls, (.int (-1000000) :: st), w) := (zE_ (i := .sipush (-1000000)) (by decide +kernel) _ _ _).trans rfl
theorem e123_14 (v0 v1 v2 v3 v4 v5 v6 v7 v8 : Value) (x : Int32) (st : List Value) (w : zH) (h : v5.category = 1) : zrun none (123, 14, [v0, v1, v2, v3, v4, v5, v6, v7, v8], (.int x :: st), w) = zrun none (123, 16, [v0, v1, v2, v3, v4, v5, .int x, v7, v8], st, w) := by
  refine (zE_ (i := .istore 6) (by decide +kernel) _ _ _).trans ?_
  have hz : zfree [v0, v1, v2, v3, v4, v5, v6, v7, v8] 6 = true := by show decide (v5.category = 1) = true; exact decide_eq_true h
  show zres (zst zint 6 2 123 14 [v0, v1, v2, v3, v4, v5, v6, v7, v8] (.int x :: st) w) = _
  unfold zst
  dsimp only
  rw [if_pos ⟨rfl, Nat.le_of_ble_eq_true rfl, hz⟩]
  rfl
theorem e123_16 (ls st : List Value) (w : zH) : zrun none (123, 16, ls, st, w) = zrun none (123, 17, ls, (.int 0 :: st), w) := (zE_ (i := .iconst 0) (by decide +kernel) _ _ _).trans rfl
theorem e123_17 (v0 v1 v2 v3 v4 v5 v6 v7 v8 : Value) (x : Int32) (st : List Value) (w : zH) (h : v6.category = 1) : zrun none (123, 17, [v0, v1, v2, v3, v4, v5, v6, v7, v8], (.int x :: st), w) = zrun none (123, 19, [v0, v1, v2, v3, v4, v5, v6, .int x, v8], st, w) := by
  refine (zE_ (i := .istore 7) (by decide +kernel) _ _ _).trans ?_
  have hz : zfree [v0, v1, v2, v3, v4, v5, v6, v7, v8] 7 = true := by show decide (v6.category = 1) = true; exact decide_eq_true h
  show zres (zst zint 7 2 123 17 [v0, v1, v2, v3, v4, v5, v6, v7, v8] (.int x :: st) w) = _
  unfold zst
  dsimp only
  rw [if_pos ⟨rfl, Nat.le_of_ble_eq_true rfl, hz⟩]
  rfl
theorem e123_19 (v0 v1 v2 v3 v4 v5 v6 v8 : Value) (x : Int32) (st : List Value) (w : zH) : zrun none (123, 19, [v0, v1, v2, v3, v4, v5, v6, .int x, v8], st, w) = zrun none (123, 21, [v0, v1, v2, v3, v4, v5, v6, .int x, v8], (.int x :: st), w) := (zE_ (i := .iload 7) (by decide +kernel) _ _ _).trans rfl
theorem e123_21 (v1 v2 v3 v4 v5 v6 v7 v8 : Value) (x : Nat) (st : List Value) (w : zH) : zrun none (123, 21, [.ref x, v1, v2, v3, v4, v5, v6, v7, v8], st, w) = zrun none (123, 22, [.ref x, v1, v2, v3, v4, v5, v6, v7, v8], (.ref x :: st), w) := (zE_ (i := .aload_n 0) (by decide +kernel) _ _ _).trans rfl
theorem e123_22 (ls : List Value) (a : Nat) (st : List Value) (w : zH) : zrun none (123, 22, ls, (.ref a :: st), w) = zo (zf w a 1106) (fun x => zrun none (123, 25, ls, (x :: st), w)) := (zE_ (i := .getfield 1106) (by decide +kernel) _ _ _).trans zq_getf
theorem e123_25 (ls : List Value) (a b : Int32) (st : List Value) (w : zH) : zrun none (123, 25, ls, (.int b :: .int a :: st), w) = if b ≤ a then zrun none (123, 106, ls, st, w) else zrun none (123, 28, ls, st, w) := (zE_ (i := .if_icmp .ge 81) (by decide +kernel) _ _ _).trans (zq_ic_ge rfl rfl)
theorem e123_28 (v0 v1 v2 v3 v4 v5 v6 v8 : Value) (x : Int32) (st : List Value) (w : zH) : zrun none (123, 28, [v0, v1, v2, v3, v4, v5, v6, .int x, v8], st, w) = zrun none (123, 30, [v0, v1, v2, v3, v4, v5, v6, .int x, v8], (.int x :: st), w) := (zE_ (i := .iload 7) (by decide +kernel) _ _ _).trans rfl
theorem e123_30 (ls st : List Value) (w : zH) : zrun none (123, 30, ls, st, w) = zrun none (123, 32, ls, (.int 24 :: st), w) := (zE_ (i := .bipush 24) (by decide +kernel) _ _ _).trans rfl
theorem e123_32 (ls : List Value) (a b : Int32) (st : List Value) (w : zH) : zrun none (123, 32, ls, (.int b :: .int a :: st), w) = if b ≤ a then zrun none (123, 106, ls, st, w) else zrun none (123, 35, ls, st, w) := (zE_ (i := .if_icmp .ge 74) (by decide +kernel) _ _ _).trans (zq_ic_ge rfl rfl)
theorem e123_35 (v1 v2 v3 v4 v5 v6 v7 v8 : Value) (x : Nat) (st : List Value) (w : zH) : zrun none (123, 35, [.ref x, v1, v2, v3, v4, v5, v6, v7, v8], st, w) = zrun none (123, 36, [.ref x, v1, v2, v3, v4, v5, v6, v7, v8], (.ref x :: st), w) := (zE_ (i := .aload_n 0) (by decide +kernel) _ _ _).trans rfl
theorem e123_36 (ls : List Value) (a : Nat) (st : List Value) (w : zH) : zrun none (123, 36, ls, (.ref a :: st), w) = zo (zf w a 1105) (fun x => zrun none (123, 39, ls, (x :: st), w)) := (zE_ (i := .getfield 1105) (by decide +kernel) _ _ _).trans zq_getf
theorem e123_39 (v0 v1 v2 v3 v4 v5 v6 v8 : Value) (x : Int32) (st : List Value) (w : zH) : zrun none (123, 39, [v0, v1, v2, v3, v4, v5, v6, .int x, v8], st, w) = zrun none (123, 41, [v0, v1, v2, v3, v4, v5, v6, .int x, v8], (.int x :: st), w) := (zE_ (i := .iload 7) (by decide +kernel) _ _ _).trans rfl
theorem e123_41 (ls : List Value) (j : Int32) (a : Nat) (st : List Value) (w : zH) : zrun none (123, 41, ls, (.int j :: .ref a :: st), w) = zo (zaa w a j) (fun x => zrun none (123, 42, ls, (x :: st), w)) := (zE_ (i := .aaload) (by decide +kernel) _ _ _).trans zq_aald
theorem e123_42 (v0 v1 v2 v3 v4 v5 v6 v7 v8 : Value) (x : Nat) (st : List Value) (w : zH) (h : v7.category = 1) : zrun none (123, 42, [v0, v1, v2, v3, v4, v5, v6, v7, v8], (.ref x :: st), w) = zrun none (123, 44, [v0, v1, v2, v3, v4, v5, v6, v7, .ref x], st, w) := by
  refine (zE_ (i := .astore 8) (by decide +kernel) _ _ _).trans ?_
  have hz : zfree [v0, v1, v2, v3, v4, v5, v6, v7, v8] 8 = true := by show decide (v7.category = 1) = true; exact decide_eq_true h
  show zres (zst zref 8 2 123 42 [v0, v1, v2, v3, v4, v5, v6, v7, v8] (.ref x :: st) w) = _
  unfold zst
  dsimp only
  rw [if_pos ⟨rfl, Nat.le_of_ble_eq_true rfl, hz⟩]
  rfl
theorem e123_42n (v0 v1 v2 v3 v4 v5 v6 v7 v8 : Value) (st : List Value) (w : zH) (h : v7.category = 1) : zrun none (123, 42, [v0, v1, v2, v3, v4, v5, v6, v7, v8], (.null :: st), w) = zrun none (123, 44, [v0, v1, v2, v3, v4, v5, v6, v7, .null], st, w) := by
  refine (zE_ (i := .astore 8) (by decide +kernel) _ _ _).trans ?_
  have hz : zfree [v0, v1, v2, v3, v4, v5, v6, v7, v8] 8 = true := by show decide (v7.category = 1) = true; exact decide_eq_true h
  show zres (zst zref 8 2 123 42 [v0, v1, v2, v3, v4, v5, v6, v7, v8] (.null :: st) w) = _
  unfold zst
  dsimp only
  rw [if_pos ⟨rfl, Nat.le_of_ble_eq_true rfl, hz⟩]
  rfl
theorem e123_44 (v0 v1 v2 v3 v4 v5 v6 v7 : Value) (x : Nat) (st : List Value) (w : zH) : zrun none (123, 44, [v0, v1, v2, v3, v4, v5, v6, v7, .ref x], st, w) = zrun none (123, 46, [v0, v1, v2, v3, v4, v5, v6, v7, .ref x], (.ref x :: st), w) := (zE_ (i := .aload 8) (by decide +kernel) _ _ _).trans rfl
theorem e123_44n (v0 v1 v2 v3 v4 v5 v6 v7 : Value) (st : List Value) (w : zH) : zrun none (123, 44, [v0, v1, v2, v3, v4, v5, v6, v7, .null], st, w) = zrun none (123, 46, [v0, v1, v2, v3, v4, v5, v6, v7, .null], (.null :: st), w) := (zE_ (i := .aload 8) (by decide +kernel) _ _ _).trans rfl
theorem e123_46n (ls st : List Value) (w : zH) : zrun none (123, 46, ls, (.null :: st), w) = zrun none (123, 100, ls, st, w) := (zE_ (i := .ifnull 54) (by decide +kernel) _ _ _).trans rfl
theorem e123_46 (ls : List Value) (a : Nat) (st : List Value) (w : zH) (h : a < zX) : zrun none (123, 46, ls, (.ref a :: st), w) = zrun none (123, 49, ls, st, w) := by
  refine (zE_ (i := .ifnull 54) (by decide +kernel) _ _ _).trans ?_
  simp only [zI, if_pos h]
  rfl
theorem e123_49 (v0 v1 v2 v3 v4 v5 v6 v7 : Value) (x : Nat) (st : List Value) (w : zH) : zrun none (123, 49, [v0, v1, v2, v3, v4, v5, v6, v7, .ref x], st, w) = zrun none (123, 51, [v0, v1, v2, v3, v4, v5, v6, v7, .ref x], (.ref x :: st), w) := (zE_ (i := .aload 8) (by decide +kernel) _ _ _).trans rfl
theorem e123_49n (v0 v1 v2 v3 v4 v5 v6 v7 : Value) (st : List Value) (w : zH) : zrun none (123, 49, [v0, v1, v2, v3, v4, v5, v6, v7, .null], st, w) = zrun none (123, 51, [v0, v1, v2, v3, v4, v5, v6, v7, .null], (.null :: st), w) := (zE_ (i := .aload 8) (by decide +kernel) _ _ _).trans rfl
theorem e123_51 (ls : List Value) (a : Nat) (st : List Value) (w : zH) : zrun none (123, 51, ls, (.ref a :: st), w) = zo (zf w a 0) (fun x => zrun none (123, 54, ls, (x :: st), w)) := (zE_ (i := .getfield 0) (by decide +kernel) _ _ _).trans zq_getf
theorem e123_54 (v0 v1 v2 v4 v5 v6 v7 v8 : Value) (x : Int32) (st : List Value) (w : zH) : zrun none (123, 54, [v0, v1, v2, .int x, v4, v5, v6, v7, v8], st, w) = zrun none (123, 55, [v0, v1, v2, .int x, v4, v5, v6, v7, v8], (.int x :: st), w) := (zE_ (i := .iload_n 3) (by decide +kernel) _ _ _).trans rfl
theorem e123_55 (ls : List Value) (a b : Int32) (st : List Value) (w : zH) : zrun none (123, 55, ls, (.int b :: .int a :: st), w) = if b < a then zrun none (123, 100, ls, st, w) else zrun none (123, 58, ls, st, w) := (zE_ (i := .if_icmp .gt 45) (by decide +kernel) _ _ _).trans (zq_ic_gt rfl rfl)
theorem e123_58 (v0 v1 v2 v3 v4 v5 v6 v7 : Value) (x : Nat) (st : List Value) (w : zH) : zrun none (123, 58, [v0, v1, v2, v3, v4, v5, v6, v7, .ref x], st, w) = zrun none (123, 60, [v0, v1, v2, v3, v4, v5, v6, v7, .ref x], (.ref x :: st), w) := (zE_ (i := .aload 8) (by decide +kernel) _ _ _).trans rfl
theorem e123_58n (v0 v1 v2 v3 v4 v5 v6 v7 : Value) (st : List Value) (w : zH) : zrun none (123, 58, [v0, v1, v2, v3, v4, v5, v6, v7, .null], st, w) = zrun none (123, 60, [v0, v1, v2, v3, v4, v5, v6, v7, .null], (.null :: st), w) := (zE_ (i := .aload 8) (by decide +kernel) _ _ _).trans rfl
theorem e123_60 (ls : List Value) (a : Nat) (st : List Value) (w : zH) : zrun none (123, 60, ls, (.ref a :: st), w) = zo (zf w a 0) (fun x => zrun none (123, 63, ls, (x :: st), w)) := (zE_ (i := .getfield 0) (by decide +kernel) _ _ _).trans zq_getf
theorem e123_63 (v0 v1 v2 v3 v4 v6 v7 v8 : Value) (x : Int32) (st : List Value) (w : zH) : zrun none (123, 63, [v0, v1, v2, v3, v4, .int x, v6, v7, v8], st, w) = zrun none (123, 65, [v0, v1, v2, v3, v4, .int x, v6, v7, v8], (.int x :: st), w) := (zE_ (i := .iload 5) (by decide +kernel) _ _ _).trans rfl
theorem e123_65 (ls : List Value) (a b : Int32) (st : List Value) (w : zH) : zrun none (123, 65, ls, (.int b :: .int a :: st), w) = if a < b then zrun none (123, 100, ls, st, w) else zrun none (123, 68, ls, st, w) := (zE_ (i := .if_icmp .lt 35) (by decide +kernel) _ _ _).trans (zq_ic_lt rfl rfl)
theorem e123_68 (v0 v1 v2 v3 v4 v5 v6 v7 : Value) (x : Nat) (st : List Value) (w : zH) : zrun none (123, 68, [v0, v1, v2, v3, v4, v5, v6, v7, .ref x], st, w) = zrun none (123, 70, [v0, v1, v2, v3, v4, v5, v6, v7, .ref x], (.ref x :: st), w) := (zE_ (i := .aload 8) (by decide +kernel) _ _ _).trans rfl
theorem e123_68n (v0 v1 v2 v3 v4 v5 v6 v7 : Value) (st : List Value) (w : zH) : zrun none (123, 68, [v0, v1, v2, v3, v4, v5, v6, v7, .null], st, w) = zrun none (123, 70, [v0, v1, v2, v3, v4, v5, v6, v7, .null], (.null :: st), w) := (zE_ (i := .aload 8) (by decide +kernel) _ _ _).trans rfl
theorem e123_70 (ls : List Value) (a : Nat) (st : List Value) (w : zH) : zrun none (123, 70, ls, (.ref a :: st), w) = zo (zf w a 1) (fun x => zrun none (123, 73, ls, (x :: st), w)) := (zE_ (i := .getfield 1) (by decide +kernel) _ _ _).trans zq_getf
theorem e123_73 (v0 v1 v2 v3 v5 v6 v7 v8 : Value) (x : Int32) (st : List Value) (w : zH) : zrun none (123, 73, [v0, v1, v2, v3, .int x, v5, v6, v7, v8], st, w) = zrun none (123, 75, [v0, v1, v2, v3, .int x, v5, v6, v7, v8], (.int x :: st), w) := (zE_ (i := .iload 4) (by decide +kernel) _ _ _).trans rfl
theorem e123_75 (ls : List Value) (a b : Int32) (st : List Value) (w : zH) : zrun none (123, 75, ls, (.int b :: .int a :: st), w) = if a = b then zrun none (123, 78, ls, st, w) else zrun none (123, 100, ls, st, w) := (zE_ (i := .if_icmp .ne 25) (by decide +kernel) _ _ _).trans (zq_ic_ne rfl rfl)
theorem e123_78 (v0 v1 v2 v3 v4 v5 v6 v7 : Value) (x : Nat) (st : List Value) (w : zH) : zrun none (123, 78, [v0, v1, v2, v3, v4, v5, v6, v7, .ref x], st, w) = zrun none (123, 80, [v0, v1, v2, v3, v4, v5, v6, v7, .ref x], (.ref x :: st), w) := (zE_ (i := .aload 8) (by decide +kernel) _ _ _).trans rfl
theorem e123_78n (v0 v1 v2 v3 v4 v5 v6 v7 : Value) (st : List Value) (w : zH) : zrun none (123, 78, [v0, v1, v2, v3, v4, v5, v6, v7, .null], st, w) = zrun none (123, 80, [v0, v1, v2, v3, v4, v5, v6, v7, .null], (.null :: st), w) := (zE_ (i := .aload 8) (by decide +kernel) _ _ _).trans rfl
theorem e123_80 (v0 v2 v3 v4 v5 v6 v7 v8 : Value) (x : Nat) (st : List Value) (w : zH) : zrun none (123, 80, [v0, .ref x, v2, v3, v4, v5, v6, v7, v8], st, w) = zrun none (123, 81, [v0, .ref x, v2, v3, v4, v5, v6, v7, v8], (.ref x :: st), w) := (zE_ (i := .aload_n 1) (by decide +kernel) _ _ _).trans rfl
theorem e123_80n (v0 v2 v3 v4 v5 v6 v7 v8 : Value) (st : List Value) (w : zH) : zrun none (123, 80, [v0, .null, v2, v3, v4, v5, v6, v7, v8], st, w) = zrun none (123, 81, [v0, .null, v2, v3, v4, v5, v6, v7, v8], (.null :: st), w) := (zE_ (i := .aload_n 1) (by decide +kernel) _ _ _).trans rfl
theorem e123_81 (v0 v1 v3 v4 v5 v6 v7 v8 : Value) (x : Int32) (st : List Value) (w : zH) : zrun none (123, 81, [v0, v1, .int x, v3, v4, v5, v6, v7, v8], st, w) = zrun none (123, 82, [v0, v1, .int x, v3, v4, v5, v6, v7, v8], (.int x :: st), w) := (zE_ (i := .iload_n 2) (by decide +kernel) _ _ _).trans rfl
theorem e123_82 (v0 v1 v2 v4 v5 v6 v7 v8 : Value) (x : Int32) (st : List Value) (w : zH) : zrun none (123, 82, [v0, v1, v2, .int x, v4, v5, v6, v7, v8], st, w) = zrun none (123, 83, [v0, v1, v2, .int x, v4, v5, v6, v7, v8], (.int x :: st), w) := (zE_ (i := .iload_n 3) (by decide +kernel) _ _ _).trans rfl
theorem e123_83 (ls : List Value) (a : Nat) (x0 : Nat) (x1 : Int32) (x2 : Int32) (st : List Value) (w : zH) (hr : zcat st ≤ 8) : zrun none (123, 83, ls, (.int x2 :: .int x1 :: .ref x0 :: .ref a :: st), w) = zgd (zis w a 0) (zcl (zrun none (1, 0, [.ref a, .ref x0, .int x1, .int x2], [], w)) (fun r => zrun none (123, 86, ls, r.1.toList ++ st, r.2))) := by
  refine (zE_ (i := .invokevirtual 1) (by decide +kernel) _ _ _).trans ?_
  show zres (zinv none 1 123 83 ls (.int x2 :: .int x1 :: .ref x0 :: .ref a :: st) w) = _
  unfold zinv
  show zres (if zrc none 1 w (.ref a) = true then zcall 1 [.ref a, .ref x0, .int x1, .int x2] st 123 83 ls w else none) = _
  by_cases hc : zis w a 0
  · rw [if_pos (zrc_is hc (by decide +kernel)), zgd_pos hc]
    exact zq_call hr (Nat.le_of_ble_eq_true rfl) rfl rfl
  · rw [zgd_neg hc, if_neg (fun q => hc (zrc_of q (by decide +kernel)))]
    rfl
theorem e123_86 (ls : List Value) (a : Int32) (st : List Value) (w : zH) : zrun none (123, 86, ls, (.int a :: st), w) = if a = 0 then zrun none (123, 100, ls, st, w) else zrun none (123, 89, ls, st, w) := (zE_ (i := .ifCond .eq 14) (by decide +kernel) _ _ _).trans (zq_if_eq rfl rfl)
theorem e123_89 (v0 v1 v2 v3 v4 v5 v6 v7 : Value) (x : Nat) (st : List Value) (w : zH) : zrun none (123, 89, [v0, v1, v2, v3, v4, v5, v6, v7, .ref x], st, w) = zrun none (123, 91, [v0, v1, v2, v3, v4, v5, v6, v7, .ref x], (.ref x :: st), w) := (zE_ (i := .aload 8) (by decide +kernel) _ _ _).trans rfl
theorem e123_89n (v0 v1 v2 v3 v4 v5 v6 v7 : Value) (st : List Value) (w : zH) : zrun none (123, 89, [v0, v1, v2, v3, v4, v5, v6, v7, .null], st, w) = zrun none (123, 91, [v0, v1, v2, v3, v4, v5, v6, v7, .null], (.null :: st), w) := (zE_ (i := .aload 8) (by decide +kernel) _ _ _).trans rfl
theorem e123_91 (ls : List Value) (a : Nat) (st : List Value) (w : zH) : zrun none (123, 91, ls, (.ref a :: st), w) = zo (zf w a 0) (fun x => zrun none (123, 94, ls, (x :: st), w)) := (zE_ (i := .getfield 0) (by decide +kernel) _ _ _).trans zq_getf
theorem e123_94 (v0 v1 v2 v3 v4 v5 v6 v7 v8 : Value) (x : Int32) (st : List Value) (w : zH) (h : v4.category = 1) : zrun none (123, 94, [v0, v1, v2, v3, v4, v5, v6, v7, v8], (.int x :: st), w) = zrun none (123, 96, [v0, v1, v2, v3, v4, .int x, v6, v7, v8], st, w) := by
  refine (zE_ (i := .istore 5) (by decide +kernel) _ _ _).trans ?_
  have hz : zfree [v0, v1, v2, v3, v4, v5, v6, v7, v8] 5 = true := by show decide (v4.category = 1) = true; exact decide_eq_true h
  show zres (zst zint 5 2 123 94 [v0, v1, v2, v3, v4, v5, v6, v7, v8] (.int x :: st) w) = _
  unfold zst
  dsimp only
  rw [if_pos ⟨rfl, Nat.le_of_ble_eq_true rfl, hz⟩]
  rfl
theorem e123_96 (v0 v1 v2 v3 v4 v5 v6 v8 : Value) (x : Int32) (st : List Value) (w : zH) : zrun none (123, 96, [v0, v1, v2, v3, v4, v5, v6, .int x, v8], st, w) = zrun none (123, 98, [v0, v1, v2, v3, v4, v5, v6, .int x, v8], (.int x :: st), w) := (zE_ (i := .iload 7) (by decide +kernel) _ _ _).trans rfl
theorem e123_98 (v0 v1 v2 v3 v4 v5 v6 v7 v8 : Value) (x : Int32) (st : List Value) (w : zH) (h : v5.category = 1) : zrun none (123, 98, [v0, v1, v2, v3, v4, v5, v6, v7, v8], (.int x :: st), w) = zrun none (123, 100, [v0, v1, v2, v3, v4, v5, .int x, v7, v8], st, w) := by
  refine (zE_ (i := .istore 6) (by decide +kernel) _ _ _).trans ?_
  have hz : zfree [v0, v1, v2, v3, v4, v5, v6, v7, v8] 6 = true := by show decide (v5.category = 1) = true; exact decide_eq_true h
  show zres (zst zint 6 2 123 98 [v0, v1, v2, v3, v4, v5, v6, v7, v8] (.int x :: st) w) = _
  unfold zst
  dsimp only
  rw [if_pos ⟨rfl, Nat.le_of_ble_eq_true rfl, hz⟩]
  rfl
theorem e123_100 (v0 v1 v2 v3 v4 v5 v6 v8 : Value) (x : Int32) (st : List Value) (w : zH) : zrun none (123, 100, [v0, v1, v2, v3, v4, v5, v6, .int x, v8], st, w) = zrun none (123, 103, [v0, v1, v2, v3, v4, v5, v6, .int (x + 1), v8], st, w) := (zE_ (i := .iinc 7 1) (by decide +kernel) _ _ _).trans rfl
theorem e123_103 (ls st : List Value) (w : zH) : zrun none (123, 103, ls, st, w) = zrun none (123, 19, ls, st, w) := (zE_ (i := .goto (-84)) (by decide +kernel) _ _ _).trans rfl
theorem e123_106 (v0 v1 v2 v3 v4 v5 v7 v8 : Value) (x : Int32) (st : List Value) (w : zH) : zrun none (123, 106, [v0, v1, v2, v3, v4, v5, .int x, v7, v8], st, w) = zrun none (123, 108, [v0, v1, v2, v3, v4, v5, .int x, v7, v8], (.int x :: st), w) := (zE_ (i := .iload 6) (by decide +kernel) _ _ _).trans rfl
theorem e123_108 (ls : List Value) (x : Int32) (w : zH) : zrun none (123, 108, ls, [.int x], w) = some (some (.int x), w) := by
  refine (zE_ (i := .ireturn) (by decide +kernel) _ _ _).trans ?_
  show zres (if narrow .int (.int x) = .int x then _ else none) = _
  rw [if_pos (show narrow .int (.int x) = .int x from rfl)]
  rfl
theorem e124_0 (v1 v2 v3 v4 v5 : Value) (x : Nat) (st : List Value) (w : zH) : zrun none (124, 0, [.ref x, v1, v2, v3, v4, v5], st, w) = zrun none (124, 1, [.ref x, v1, v2, v3, v4, v5], (.ref x :: st), w) := (zE_ (i := .aload_n 0) (by decide +kernel) _ _ _).trans rfl
theorem e124_1 (v0 v2 v3 v4 v5 : Value) (x : Nat) (st : List Value) (w : zH) : zrun none (124, 1, [v0, .ref x, v2, v3, v4, v5], st, w) = zrun none (124, 2, [v0, .ref x, v2, v3, v4, v5], (.ref x :: st), w) := (zE_ (i := .aload_n 1) (by decide +kernel) _ _ _).trans rfl
theorem e124_1n (v0 v2 v3 v4 v5 : Value) (st : List Value) (w : zH) : zrun none (124, 1, [v0, .null, v2, v3, v4, v5], st, w) = zrun none (124, 2, [v0, .null, v2, v3, v4, v5], (.null :: st), w) := (zE_ (i := .aload_n 1) (by decide +kernel) _ _ _).trans rfl
theorem e124_2 (v0 v1 v3 v4 v5 : Value) (x : Int32) (st : List Value) (w : zH) : zrun none (124, 2, [v0, v1, .int x, v3, v4, v5], st, w) = zrun none (124, 3, [v0, v1, .int x, v3, v4, v5], (.int x :: st), w) := (zE_ (i := .iload_n 2) (by decide +kernel) _ _ _).trans rfl
theorem e124_3 (v0 v1 v2 v4 v5 : Value) (x : Int32) (st : List Value) (w : zH) : zrun none (124, 3, [v0, v1, v2, .int x, v4, v5], st, w) = zrun none (124, 4, [v0, v1, v2, .int x, v4, v5], (.int x :: st), w) := (zE_ (i := .iload_n 3) (by decide +kernel) _ _ _).trans rfl
theorem e124_4 (ls : List Value) (a : Nat) (x0 : Nat) (x1 : Int32) (x2 : Int32) (st : List Value) (w : zH) (hr : zcat st ≤ 8) : zrun none (124, 4, ls, (.int x2 :: .int x1 :: .ref x0 :: .ref a :: st), w) = zgd (zis w a 11) (zcl (zrun none (123, 0, [.ref a, .ref x0, .int x1, .int x2, zJ, zJ, zJ, zJ, zJ], [], w)) (fun r => zrun none (124, 7, ls, r.1.toList ++ st, r.2))) := by
  refine (zE_ (i := .invokevirtual 123) (by decide +kernel) _ _ _).trans ?_
  show zres (zinv none 123 124 4 ls (.int x2 :: .int x1 :: .ref x0 :: .ref a :: st) w) = _
  unfold zinv
  show zres (if zrc none 123 w (.ref a) = true then zcall 123 [.ref a, .ref x0, .int x1, .int x2] st 124 4 ls w else none) = _
  by_cases hc : zis w a 11
  · rw [if_pos (zrc_is hc (by decide +kernel)), zgd_pos hc]
    exact zq_call hr (Nat.le_of_ble_eq_true rfl) rfl rfl
  · rw [zgd_neg hc, if_neg (fun q => hc (zrc_of q (by decide +kernel)))]
    rfl
theorem e124_7 (v0 v1 v2 v3 v4 v5 : Value) (x : Int32) (st : List Value) (w : zH) (h : v3.category = 1) : zrun none (124, 7, [v0, v1, v2, v3, v4, v5], (.int x :: st), w) = zrun none (124, 9, [v0, v1, v2, v3, .int x, v5], st, w) := by
  refine (zE_ (i := .istore 4) (by decide +kernel) _ _ _).trans ?_
  have hz : zfree [v0, v1, v2, v3, v4, v5] 4 = true := by show decide (v3.category = 1) = true; exact decide_eq_true h
  show zres (zst zint 4 2 124 7 [v0, v1, v2, v3, v4, v5] (.int x :: st) w) = _
  unfold zst
  dsimp only
  rw [if_pos ⟨rfl, Nat.le_of_ble_eq_true rfl, hz⟩]
  rfl
theorem e124_9 (v0 v1 v2 v3 v5 : Value) (x : Int32) (st : List Value) (w : zH) : zrun none (124, 9, [v0, v1, v2, v3, .int x, v5], st, w) = zrun none (124, 11, [v0, v1, v2, v3, .int x, v5], (.int x :: st), w) := (zE_ (i := .iload 4) (by decide +kernel) _ _ _).trans rfl
theorem e124_11 (ls : List Value) (a : Int32) (st : List Value) (w : zH) : zrun none (124, 11, ls, (.int a :: st), w) = if a < 0 then zrun none (124, 21, ls, st, w) else zrun none (124, 14, ls, st, w) := (zE_ (i := .ifCond .lt 10) (by decide +kernel) _ _ _).trans (zq_if_lt rfl rfl)
theorem e124_14 (v0 v1 v2 v3 v5 : Value) (x : Int32) (st : List Value) (w : zH) : zrun none (124, 14, [v0, v1, v2, v3, .int x, v5], st, w) = zrun none (124, 16, [v0, v1, v2, v3, .int x, v5], (.int x :: st), w) := (zE_ (i := .iload 4) (by decide +kernel) _ _ _).trans rfl
theorem e124_16 (ls st : List Value) (w : zH) : zrun none (124, 16, ls, st, w) = zrun none (124, 18, ls, (.int 24 :: st), w) := (zE_ (i := .bipush 24) (by decide +kernel) _ _ _).trans rfl
theorem e124_18 (ls : List Value) (a b : Int32) (st : List Value) (w : zH) : zrun none (124, 18, ls, (.int b :: .int a :: st), w) = if a < b then zrun none (124, 23, ls, st, w) else zrun none (124, 21, ls, st, w) := (zE_ (i := .if_icmp .lt 5) (by decide +kernel) _ _ _).trans (zq_ic_lt rfl rfl)
theorem e124_21 (ls st : List Value) (w : zH) : zrun none (124, 21, ls, st, w) = zrun none (124, 22, ls, (.int 0 :: st), w) := (zE_ (i := .iconst 0) (by decide +kernel) _ _ _).trans rfl
theorem e124_22 (ls : List Value) (x : Int32) (w : zH) (h : narrow .boolean (.int x) = .int x) : zrun none (124, 22, ls, [.int x], w) = some (some (.int x), w) := by
  refine (zE_ (i := .ireturn) (by decide +kernel) _ _ _).trans ?_
  show zres (if narrow .boolean (.int x) = .int x then _ else none) = _
  rw [if_pos h]
  rfl
theorem e124_23 (v1 v2 v3 v4 v5 : Value) (x : Nat) (st : List Value) (w : zH) : zrun none (124, 23, [.ref x, v1, v2, v3, v4, v5], st, w) = zrun none (124, 24, [.ref x, v1, v2, v3, v4, v5], (.ref x :: st), w) := (zE_ (i := .aload_n 0) (by decide +kernel) _ _ _).trans rfl
theorem e124_24 (ls : List Value) (a : Nat) (st : List Value) (w : zH) : zrun none (124, 24, ls, (.ref a :: st), w) = zo (zf w a 1105) (fun x => zrun none (124, 27, ls, (x :: st), w)) := (zE_ (i := .getfield 1105) (by decide +kernel) _ _ _).trans zq_getf
theorem e124_27 (v0 v1 v2 v3 v5 : Value) (x : Int32) (st : List Value) (w : zH) : zrun none (124, 27, [v0, v1, v2, v3, .int x, v5], st, w) = zrun none (124, 29, [v0, v1, v2, v3, .int x, v5], (.int x :: st), w) := (zE_ (i := .iload 4) (by decide +kernel) _ _ _).trans rfl
theorem e124_29 (ls : List Value) (j : Int32) (a : Nat) (st : List Value) (w : zH) : zrun none (124, 29, ls, (.int j :: .ref a :: st), w) = zo (zaa w a j) (fun x => zrun none (124, 30, ls, (x :: st), w)) := (zE_ (i := .aaload) (by decide +kernel) _ _ _).trans zq_aald
theorem e124_30 (v0 v1 v2 v3 v4 v5 : Value) (x : Nat) (st : List Value) (w : zH) (h : v4.category = 1) : zrun none (124, 30, [v0, v1, v2, v3, v4, v5], (.ref x :: st), w) = zrun none (124, 32, [v0, v1, v2, v3, v4, .ref x], st, w) := by
  refine (zE_ (i := .astore 5) (by decide +kernel) _ _ _).trans ?_
  have hz : zfree [v0, v1, v2, v3, v4, v5] 5 = true := by show decide (v4.category = 1) = true; exact decide_eq_true h
  show zres (zst zref 5 2 124 30 [v0, v1, v2, v3, v4, v5] (.ref x :: st) w) = _
  unfold zst
  dsimp only
  rw [if_pos ⟨rfl, Nat.le_of_ble_eq_true rfl, hz⟩]
  rfl
theorem e124_30n (v0 v1 v2 v3 v4 v5 : Value) (st : List Value) (w : zH) (h : v4.category = 1) : zrun none (124, 30, [v0, v1, v2, v3, v4, v5], (.null :: st), w) = zrun none (124, 32, [v0, v1, v2, v3, v4, .null], st, w) := by
  refine (zE_ (i := .astore 5) (by decide +kernel) _ _ _).trans ?_
  have hz : zfree [v0, v1, v2, v3, v4, v5] 5 = true := by show decide (v4.category = 1) = true; exact decide_eq_true h
  show zres (zst zref 5 2 124 30 [v0, v1, v2, v3, v4, v5] (.null :: st) w) = _
  unfold zst
  dsimp only
  rw [if_pos ⟨rfl, Nat.le_of_ble_eq_true rfl, hz⟩]
  rfl
theorem e124_32 (v0 v1 v2 v3 v4 : Value) (x : Nat) (st : List Value) (w : zH) : zrun none (124, 32, [v0, v1, v2, v3, v4, .ref x], st, w) = zrun none (124, 34, [v0, v1, v2, v3, v4, .ref x], (.ref x :: st), w) := (zE_ (i := .aload 5) (by decide +kernel) _ _ _).trans rfl
theorem e124_32n (v0 v1 v2 v3 v4 : Value) (st : List Value) (w : zH) : zrun none (124, 32, [v0, v1, v2, v3, v4, .null], st, w) = zrun none (124, 34, [v0, v1, v2, v3, v4, .null], (.null :: st), w) := (zE_ (i := .aload 5) (by decide +kernel) _ _ _).trans rfl
theorem e124_34n (ls st : List Value) (w : zH) : zrun none (124, 34, ls, (.null :: st), w) = zrun none (124, 49, ls, st, w) := (zE_ (i := .ifnull 15) (by decide +kernel) _ _ _).trans rfl
theorem e124_34 (ls : List Value) (a : Nat) (st : List Value) (w : zH) (h : a < zX) : zrun none (124, 34, ls, (.ref a :: st), w) = zrun none (124, 37, ls, st, w) := by
  refine (zE_ (i := .ifnull 15) (by decide +kernel) _ _ _).trans ?_
  simp only [zI, if_pos h]
  rfl
theorem e124_37 (v0 v1 v2 v3 v4 : Value) (x : Nat) (st : List Value) (w : zH) : zrun none (124, 37, [v0, v1, v2, v3, v4, .ref x], st, w) = zrun none (124, 39, [v0, v1, v2, v3, v4, .ref x], (.ref x :: st), w) := (zE_ (i := .aload 5) (by decide +kernel) _ _ _).trans rfl
theorem e124_37n (v0 v1 v2 v3 v4 : Value) (st : List Value) (w : zH) : zrun none (124, 37, [v0, v1, v2, v3, v4, .null], st, w) = zrun none (124, 39, [v0, v1, v2, v3, v4, .null], (.null :: st), w) := (zE_ (i := .aload 5) (by decide +kernel) _ _ _).trans rfl
theorem e124_39 (ls : List Value) (a : Nat) (st : List Value) (w : zH) : zrun none (124, 39, ls, (.ref a :: st), w) = zo (zf w a 5) (fun x => zrun none (124, 42, ls, (x :: st), w)) := (zE_ (i := .getfield 5) (by decide +kernel) _ _ _).trans zq_getf
theorem e124_42 (ls : List Value) (a : Int32) (st : List Value) (w : zH) : zrun none (124, 42, ls, (.int a :: st), w) = if a = 0 then zrun none (124, 49, ls, st, w) else zrun none (124, 45, ls, st, w) := (zE_ (i := .ifCond .eq 7) (by decide +kernel) _ _ _).trans (zq_if_eq rfl rfl)
theorem e124_45 (ls st : List Value) (w : zH) : zrun none (124, 45, ls, st, w) = zrun none (124, 46, ls, (.int 1 :: st), w) := (zE_ (i := .iconst 1) (by decide +kernel) _ _ _).trans rfl
theorem e124_46 (ls st : List Value) (w : zH) : zrun none (124, 46, ls, st, w) = zrun none (124, 50, ls, st, w) := (zE_ (i := .goto 4) (by decide +kernel) _ _ _).trans rfl
theorem e124_49 (ls st : List Value) (w : zH) : zrun none (124, 49, ls, st, w) = zrun none (124, 50, ls, (.int 0 :: st), w) := (zE_ (i := .iconst 0) (by decide +kernel) _ _ _).trans rfl
theorem e124_50 (ls : List Value) (x : Int32) (w : zH) (h : narrow .boolean (.int x) = .int x) : zrun none (124, 50, ls, [.int x], w) = some (some (.int x), w) := by
  refine (zE_ (i := .ireturn) (by decide +kernel) _ _ _).trans ?_
  show zres (if narrow .boolean (.int x) = .int x then _ else none) = _
  rw [if_pos h]
  rfl
theorem e125_0 (v1 v2 v3 v4 v5 : Value) (x : Nat) (st : List Value) (w : zH) : zrun none (125, 0, [.ref x, v1, v2, v3, v4, v5], st, w) = zrun none (125, 1, [.ref x, v1, v2, v3, v4, v5], (.ref x :: st), w) := (zE_ (i := .aload_n 0) (by decide +kernel) _ _ _).trans rfl
theorem e125_1 (v0 v2 v3 v4 v5 : Value) (x : Nat) (st : List Value) (w : zH) : zrun none (125, 1, [v0, .ref x, v2, v3, v4, v5], st, w) = zrun none (125, 2, [v0, .ref x, v2, v3, v4, v5], (.ref x :: st), w) := (zE_ (i := .aload_n 1) (by decide +kernel) _ _ _).trans rfl
theorem e125_1n (v0 v2 v3 v4 v5 : Value) (st : List Value) (w : zH) : zrun none (125, 1, [v0, .null, v2, v3, v4, v5], st, w) = zrun none (125, 2, [v0, .null, v2, v3, v4, v5], (.null :: st), w) := (zE_ (i := .aload_n 1) (by decide +kernel) _ _ _).trans rfl
theorem e125_2 (ls : List Value) (a : Nat) (st : List Value) (w : zH) : zrun none (125, 2, ls, (.ref a :: st), w) = zo (zf w a 1000) (fun x => zrun none (125, 5, ls, (x :: st), w)) := (zE_ (i := .getfield 1000) (by decide +kernel) _ _ _).trans zq_getf
theorem e125_5 (ls : List Value) (a : Nat) (x0 : Int32) (st : List Value) (w : zH) (hr : zcat st ≤ 8) : zrun none (125, 5, ls, (.int x0 :: .ref a :: st), w) = zgd (zis w a 11) (zcl (zrun none (111, 0, [.ref a, .int x0], [], w)) (fun r => zrun none (125, 8, ls, r.1.toList ++ st, r.2))) := by
  refine (zE_ (i := .invokevirtual 111) (by decide +kernel) _ _ _).trans ?_
  show zres (zinv none 111 125 5 ls (.int x0 :: .ref a :: st) w) = _
  unfold zinv
  show zres (if zrc none 111 w (.ref a) = true then zcall 111 [.ref a, .int x0] st 125 5 ls w else none) = _
  by_cases hc : zis w a 11
  · rw [if_pos (zrc_is hc (by decide +kernel)), zgd_pos hc]
    exact zq_call hr (Nat.le_of_ble_eq_true rfl) rfl rfl
  · rw [zgd_neg hc, if_neg (fun q => hc (zrc_of q (by decide +kernel)))]
    rfl
theorem e125_8 (v0 v1 v2 v3 v4 v5 : Value) (x : Nat) (st : List Value) (w : zH) (h : v1.category = 1) : zrun none (125, 8, [v0, v1, v2, v3, v4, v5], (.ref x :: st), w) = zrun none (125, 9, [v0, v1, .ref x, v3, v4, v5], st, w) := by
  refine (zE_ (i := .astore_n 2) (by decide +kernel) _ _ _).trans ?_
  have hz : zfree [v0, v1, v2, v3, v4, v5] 2 = true := by show decide (v1.category = 1) = true; exact decide_eq_true h
  show zres (zst zref 2 1 125 8 [v0, v1, v2, v3, v4, v5] (.ref x :: st) w) = _
  unfold zst
  dsimp only
  rw [if_pos ⟨rfl, Nat.le_of_ble_eq_true rfl, hz⟩]
  rfl
theorem e125_8n (v0 v1 v2 v3 v4 v5 : Value) (st : List Value) (w : zH) (h : v1.category = 1) : zrun none (125, 8, [v0, v1, v2, v3, v4, v5], (.null :: st), w) = zrun none (125, 9, [v0, v1, .null, v3, v4, v5], st, w) := by
  refine (zE_ (i := .astore_n 2) (by decide +kernel) _ _ _).trans ?_
  have hz : zfree [v0, v1, v2, v3, v4, v5] 2 = true := by show decide (v1.category = 1) = true; exact decide_eq_true h
  show zres (zst zref 2 1 125 8 [v0, v1, v2, v3, v4, v5] (.null :: st) w) = _
  unfold zst
  dsimp only
  rw [if_pos ⟨rfl, Nat.le_of_ble_eq_true rfl, hz⟩]
  rfl
theorem e125_9 (v0 v1 v3 v4 v5 : Value) (x : Nat) (st : List Value) (w : zH) : zrun none (125, 9, [v0, v1, .ref x, v3, v4, v5], st, w) = zrun none (125, 10, [v0, v1, .ref x, v3, v4, v5], (.ref x :: st), w) := (zE_ (i := .aload_n 2) (by decide +kernel) _ _ _).trans rfl
theorem e125_9n (v0 v1 v3 v4 v5 : Value) (st : List Value) (w : zH) : zrun none (125, 9, [v0, v1, .null, v3, v4, v5], st, w) = zrun none (125, 10, [v0, v1, .null, v3, v4, v5], (.null :: st), w) := (zE_ (i := .aload_n 2) (by decide +kernel) _ _ _).trans rfl
theorem e125_10n (ls st : List Value) (w : zH) : zrun none (125, 10, ls, (.null :: st), w) = zrun none (125, 29, ls, st, w) := (zE_ (i := .ifnull 19) (by decide +kernel) _ _ _).trans rfl
theorem e125_10 (ls : List Value) (a : Nat) (st : List Value) (w : zH) (h : a < zX) : zrun none (125, 10, ls, (.ref a :: st), w) = zrun none (125, 13, ls, st, w) := by
  refine (zE_ (i := .ifnull 19) (by decide +kernel) _ _ _).trans ?_
  simp only [zI, if_pos h]
  rfl
theorem e125_13 (v1 v2 v3 v4 v5 : Value) (x : Nat) (st : List Value) (w : zH) : zrun none (125, 13, [.ref x, v1, v2, v3, v4, v5], st, w) = zrun none (125, 14, [.ref x, v1, v2, v3, v4, v5], (.ref x :: st), w) := (zE_ (i := .aload_n 0) (by decide +kernel) _ _ _).trans rfl
theorem e125_14 (v0 v1 v3 v4 v5 : Value) (x : Nat) (st : List Value) (w : zH) : zrun none (125, 14, [v0, v1, .ref x, v3, v4, v5], st, w) = zrun none (125, 15, [v0, v1, .ref x, v3, v4, v5], (.ref x :: st), w) := (zE_ (i := .aload_n 2) (by decide +kernel) _ _ _).trans rfl
theorem e125_14n (v0 v1 v3 v4 v5 : Value) (st : List Value) (w : zH) : zrun none (125, 14, [v0, v1, .null, v3, v4, v5], st, w) = zrun none (125, 15, [v0, v1, .null, v3, v4, v5], (.null :: st), w) := (zE_ (i := .aload_n 2) (by decide +kernel) _ _ _).trans rfl
theorem e125_15 (v0 v2 v3 v4 v5 : Value) (x : Nat) (st : List Value) (w : zH) : zrun none (125, 15, [v0, .ref x, v2, v3, v4, v5], st, w) = zrun none (125, 16, [v0, .ref x, v2, v3, v4, v5], (.ref x :: st), w) := (zE_ (i := .aload_n 1) (by decide +kernel) _ _ _).trans rfl
theorem e125_15n (v0 v2 v3 v4 v5 : Value) (st : List Value) (w : zH) : zrun none (125, 15, [v0, .null, v2, v3, v4, v5], st, w) = zrun none (125, 16, [v0, .null, v2, v3, v4, v5], (.null :: st), w) := (zE_ (i := .aload_n 1) (by decide +kernel) _ _ _).trans rfl
theorem e125_16 (ls : List Value) (a : Nat) (st : List Value) (w : zH) : zrun none (125, 16, ls, (.ref a :: st), w) = zo (zf w a 1001) (fun x => zrun none (125, 19, ls, (x :: st), w)) := (zE_ (i := .getfield 1001) (by decide +kernel) _ _ _).trans zq_getf
theorem e125_19 (v0 v2 v3 v4 v5 : Value) (x : Nat) (st : List Value) (w : zH) : zrun none (125, 19, [v0, .ref x, v2, v3, v4, v5], st, w) = zrun none (125, 20, [v0, .ref x, v2, v3, v4, v5], (.ref x :: st), w) := (zE_ (i := .aload_n 1) (by decide +kernel) _ _ _).trans rfl
theorem e125_19n (v0 v2 v3 v4 v5 : Value) (st : List Value) (w : zH) : zrun none (125, 19, [v0, .null, v2, v3, v4, v5], st, w) = zrun none (125, 20, [v0, .null, v2, v3, v4, v5], (.null :: st), w) := (zE_ (i := .aload_n 1) (by decide +kernel) _ _ _).trans rfl
theorem e125_20 (ls : List Value) (a : Nat) (st : List Value) (w : zH) : zrun none (125, 20, ls, (.ref a :: st), w) = zo (zf w a 1002) (fun x => zrun none (125, 23, ls, (x :: st), w)) := (zE_ (i := .getfield 1002) (by decide +kernel) _ _ _).trans zq_getf
theorem e125_23 (ls : List Value) (a : Nat) (x0 : Nat) (x1 : Int32) (x2 : Int32) (st : List Value) (w : zH) (hr : zcat st ≤ 8) : zrun none (125, 23, ls, (.int x2 :: .int x1 :: .ref x0 :: .ref a :: st), w) = zgd (zis w a 11) (zcl (zrun none (124, 0, [.ref a, .ref x0, .int x1, .int x2, zJ, zJ], [], w)) (fun r => zrun none (125, 26, ls, r.1.toList ++ st, r.2))) := by
  refine (zE_ (i := .invokevirtual 124) (by decide +kernel) _ _ _).trans ?_
  show zres (zinv none 124 125 23 ls (.int x2 :: .int x1 :: .ref x0 :: .ref a :: st) w) = _
  unfold zinv
  show zres (if zrc none 124 w (.ref a) = true then zcall 124 [.ref a, .ref x0, .int x1, .int x2] st 125 23 ls w else none) = _
  by_cases hc : zis w a 11
  · rw [if_pos (zrc_is hc (by decide +kernel)), zgd_pos hc]
    exact zq_call hr (Nat.le_of_ble_eq_true rfl) rfl rfl
  · rw [zgd_neg hc, if_neg (fun q => hc (zrc_of q (by decide +kernel)))]
    rfl
theorem e125_26 (ls : List Value) (a : Int32) (st : List Value) (w : zH) : zrun none (125, 26, ls, (.int a :: st), w) = if a = 0 then zrun none (125, 29, ls, st, w) else zrun none (125, 31, ls, st, w) := (zE_ (i := .ifCond .ne 5) (by decide +kernel) _ _ _).trans (zq_if_ne rfl rfl)
theorem e125_29 (ls st : List Value) (w : zH) : zrun none (125, 29, ls, st, w) = zrun none (125, 30, ls, (.int 0 :: st), w) := (zE_ (i := .iconst 0) (by decide +kernel) _ _ _).trans rfl
theorem e125_30 (ls : List Value) (x : Int32) (w : zH) : zrun none (125, 30, ls, [.int x], w) = some (some (.int x), w) := by
  refine (zE_ (i := .ireturn) (by decide +kernel) _ _ _).trans ?_
  show zres (if narrow .int (.int x) = .int x then _ else none) = _
  rw [if_pos (show narrow .int (.int x) = .int x from rfl)]
  rfl
theorem e125_31 (ls st : List Value) (w : zH) : zrun none (125, 31, ls, st, w) = zrun none (125, 32, ls, (.int 5 :: st), w) := (zE_ (i := .iconst 5) (by decide +kernel) _ _ _).trans rfl
theorem e125_32 (v0 v1 v2 v3 v4 v5 : Value) (x : Int32) (st : List Value) (w : zH) (h : v2.category = 1) : zrun none (125, 32, [v0, v1, v2, v3, v4, v5], (.int x :: st), w) = zrun none (125, 33, [v0, v1, v2, .int x, v4, v5], st, w) := by
  refine (zE_ (i := .istore_n 3) (by decide +kernel) _ _ _).trans ?_
  have hz : zfree [v0, v1, v2, v3, v4, v5] 3 = true := by show decide (v2.category = 1) = true; exact decide_eq_true h
  show zres (zst zint 3 1 125 32 [v0, v1, v2, v3, v4, v5] (.int x :: st) w) = _
  unfold zst
  dsimp only
  rw [if_pos ⟨rfl, Nat.le_of_ble_eq_true rfl, hz⟩]
  rfl
theorem e125_33 (ls st : List Value) (w : zH) : zrun none (125, 33, ls, st, w) = zrun none (125, 34, ls, (.int 0 :: st), w) := (zE_ (i := .iconst 0) (by decide +kernel) _ _ _).trans rfl
theorem e125_34 (v0 v1 v2 v3 v4 v5 : Value) (x : Int32) (st : List Value) (w : zH) (h : v3.category = 1) : zrun none (125, 34, [v0, v1, v2, v3, v4, v5], (.int x :: st), w) = zrun none (125, 36, [v0, v1, v2, v3, .int x, v5], st, w) := by
  refine (zE_ (i := .istore 4) (by decide +kernel) _ _ _).trans ?_
  have hz : zfree [v0, v1, v2, v3, v4, v5] 4 = true := by show decide (v3.category = 1) = true; exact decide_eq_true h
  show zres (zst zint 4 2 125 34 [v0, v1, v2, v3, v4, v5] (.int x :: st) w) = _
  unfold zst
  dsimp only
  rw [if_pos ⟨rfl, Nat.le_of_ble_eq_true rfl, hz⟩]
  rfl
theorem e125_36 (v0 v1 v2 v3 v5 : Value) (x : Int32) (st : List Value) (w : zH) : zrun none (125, 36, [v0, v1, v2, v3, .int x, v5], st, w) = zrun none (125, 38, [v0, v1, v2, v3, .int x, v5], (.int x :: st), w) := (zE_ (i := .iload 4) (by decide +kernel) _ _ _).trans rfl
theorem e125_38 (v1 v2 v3 v4 v5 : Value) (x : Nat) (st : List Value) (w : zH) : zrun none (125, 38, [.ref x, v1, v2, v3, v4, v5], st, w) = zrun none (125, 39, [.ref x, v1, v2, v3, v4, v5], (.ref x :: st), w) := (zE_ (i := .aload_n 0) (by decide +kernel) _ _ _).trans rfl
theorem e125_39 (ls : List Value) (a : Nat) (st : List Value) (w : zH) : zrun none (125, 39, ls, (.ref a :: st), w) = zo (zf w a 1109) (fun x => zrun none (125, 42, ls, (x :: st), w)) := (zE_ (i := .getfield 1109) (by decide +kernel) _ _ _).trans zq_getf
theorem e125_42 (ls : List Value) (a b : Int32) (st : List Value) (w : zH) : zrun none (125, 42, ls, (.int b :: .int a :: st), w) = if b ≤ a then zrun none (125, 102, ls, st, w) else zrun none (125, 45, ls, st, w) := (zE_ (i := .if_icmp .ge 60) (by decide +kernel) _ _ _).trans (zq_ic_ge rfl rfl)
theorem e125_45 (v1 v2 v3 v4 v5 : Value) (x : Nat) (st : List Value) (w : zH) : zrun none (125, 45, [.ref x, v1, v2, v3, v4, v5], st, w) = zrun none (125, 46, [.ref x, v1, v2, v3, v4, v5], (.ref x :: st), w) := (zE_ (i := .aload_n 0) (by decide +kernel) _ _ _).trans rfl
theorem e125_46 (v0 v1 v2 v3 v5 : Value) (x : Int32) (st : List Value) (w : zH) : zrun none (125, 46, [v0, v1, v2, v3, .int x, v5], st, w) = zrun none (125, 48, [v0, v1, v2, v3, .int x, v5], (.int x :: st), w) := (zE_ (i := .iload 4) (by decide +kernel) _ _ _).trans rfl
theorem e125_48 (ls : List Value) (a : Nat) (x0 : Int32) (st : List Value) (w : zH) (hr : zcat st ≤ 8) : zrun none (125, 48, ls, (.int x0 :: .ref a :: st), w) = zgd (zis w a 11) (zcl (zrun none (112, 0, [.ref a, .int x0], [], w)) (fun r => zrun none (125, 51, ls, r.1.toList ++ st, r.2))) := by
  refine (zE_ (i := .invokevirtual 112) (by decide +kernel) _ _ _).trans ?_
  show zres (zinv none 112 125 48 ls (.int x0 :: .ref a :: st) w) = _
  unfold zinv
  show zres (if zrc none 112 w (.ref a) = true then zcall 112 [.ref a, .int x0] st 125 48 ls w else none) = _
  by_cases hc : zis w a 11
  · rw [if_pos (zrc_is hc (by decide +kernel)), zgd_pos hc]
    exact zq_call hr (Nat.le_of_ble_eq_true rfl) rfl rfl
  · rw [zgd_neg hc, if_neg (fun q => hc (zrc_of q (by decide +kernel)))]
    rfl
theorem e125_51 (v0 v1 v2 v3 v4 v5 : Value) (x : Nat) (st : List Value) (w : zH) (h : v4.category = 1) : zrun none (125, 51, [v0, v1, v2, v3, v4, v5], (.ref x :: st), w) = zrun none (125, 53, [v0, v1, v2, v3, v4, .ref x], st, w) := by
  refine (zE_ (i := .astore 5) (by decide +kernel) _ _ _).trans ?_
  have hz : zfree [v0, v1, v2, v3, v4, v5] 5 = true := by show decide (v4.category = 1) = true; exact decide_eq_true h
  show zres (zst zref 5 2 125 51 [v0, v1, v2, v3, v4, v5] (.ref x :: st) w) = _
  unfold zst
  dsimp only
  rw [if_pos ⟨rfl, Nat.le_of_ble_eq_true rfl, hz⟩]
  rfl
theorem e125_51n (v0 v1 v2 v3 v4 v5 : Value) (st : List Value) (w : zH) (h : v4.category = 1) : zrun none (125, 51, [v0, v1, v2, v3, v4, v5], (.null :: st), w) = zrun none (125, 53, [v0, v1, v2, v3, v4, .null], st, w) := by
  refine (zE_ (i := .astore 5) (by decide +kernel) _ _ _).trans ?_
  have hz : zfree [v0, v1, v2, v3, v4, v5] 5 = true := by show decide (v4.category = 1) = true; exact decide_eq_true h
  show zres (zst zref 5 2 125 51 [v0, v1, v2, v3, v4, v5] (.null :: st) w) = _
  unfold zst
  dsimp only
  rw [if_pos ⟨rfl, Nat.le_of_ble_eq_true rfl, hz⟩]
  rfl
theorem e125_53 (v0 v1 v2 v3 v4 : Value) (x : Nat) (st : List Value) (w : zH) : zrun none (125, 53, [v0, v1, v2, v3, v4, .ref x], st, w) = zrun none (125, 55, [v0, v1, v2, v3, v4, .ref x], (.ref x :: st), w) := (zE_ (i := .aload 5) (by decide +kernel) _ _ _).trans rfl
theorem e125_53n (v0 v1 v2 v3 v4 : Value) (st : List Value) (w : zH) : zrun none (125, 53, [v0, v1, v2, v3, v4, .null], st, w) = zrun none (125, 55, [v0, v1, v2, v3, v4, .null], (.null :: st), w) := (zE_ (i := .aload 5) (by decide +kernel) _ _ _).trans rfl
theorem e125_55n (ls st : List Value) (w : zH) : zrun none (125, 55, ls, (.null :: st), w) = zrun none (125, 96, ls, st, w) := (zE_ (i := .ifnull 41) (by decide +kernel) _ _ _).trans rfl
theorem e125_55 (ls : List Value) (a : Nat) (st : List Value) (w : zH) (h : a < zX) : zrun none (125, 55, ls, (.ref a :: st), w) = zrun none (125, 58, ls, st, w) := by
  refine (zE_ (i := .ifnull 41) (by decide +kernel) _ _ _).trans ?_
  simp only [zI, if_pos h]
  rfl
theorem e125_58 (v0 v1 v2 v3 v4 : Value) (x : Nat) (st : List Value) (w : zH) : zrun none (125, 58, [v0, v1, v2, v3, v4, .ref x], st, w) = zrun none (125, 60, [v0, v1, v2, v3, v4, .ref x], (.ref x :: st), w) := (zE_ (i := .aload 5) (by decide +kernel) _ _ _).trans rfl
theorem e125_58n (v0 v1 v2 v3 v4 : Value) (st : List Value) (w : zH) : zrun none (125, 58, [v0, v1, v2, v3, v4, .null], st, w) = zrun none (125, 60, [v0, v1, v2, v3, v4, .null], (.null :: st), w) := (zE_ (i := .aload 5) (by decide +kernel) _ _ _).trans rfl
theorem e125_60 (ls : List Value) (a : Nat) (st : List Value) (w : zH) : zrun none (125, 60, ls, (.ref a :: st), w) = zo (zf w a 400) (fun x => zrun none (125, 63, ls, (x :: st), w)) := (zE_ (i := .getfield 400) (by decide +kernel) _ _ _).trans zq_getf
theorem e125_63 (v0 v2 v3 v4 v5 : Value) (x : Nat) (st : List Value) (w : zH) : zrun none (125, 63, [v0, .ref x, v2, v3, v4, v5], st, w) = zrun none (125, 64, [v0, .ref x, v2, v3, v4, v5], (.ref x :: st), w) := (zE_ (i := .aload_n 1) (by decide +kernel) _ _ _).trans rfl
theorem e125_63n (v0 v2 v3 v4 v5 : Value) (st : List Value) (w : zH) : zrun none (125, 63, [v0, .null, v2, v3, v4, v5], st, w) = zrun none (125, 64, [v0, .null, v2, v3, v4, v5], (.null :: st), w) := (zE_ (i := .aload_n 1) (by decide +kernel) _ _ _).trans rfl
theorem e125_64 (ls : List Value) (a : Nat) (st : List Value) (w : zH) : zrun none (125, 64, ls, (.ref a :: st), w) = zo (zf w a 1000) (fun x => zrun none (125, 67, ls, (x :: st), w)) := (zE_ (i := .getfield 1000) (by decide +kernel) _ _ _).trans zq_getf
theorem e125_67 (ls : List Value) (a b : Int32) (st : List Value) (w : zH) : zrun none (125, 67, ls, (.int b :: .int a :: st), w) = if a = b then zrun none (125, 70, ls, st, w) else zrun none (125, 96, ls, st, w) := (zE_ (i := .if_icmp .ne 29) (by decide +kernel) _ _ _).trans (zq_ic_ne rfl rfl)
theorem e125_70 (v0 v1 v2 v3 v4 : Value) (x : Nat) (st : List Value) (w : zH) : zrun none (125, 70, [v0, v1, v2, v3, v4, .ref x], st, w) = zrun none (125, 72, [v0, v1, v2, v3, v4, .ref x], (.ref x :: st), w) := (zE_ (i := .aload 5) (by decide +kernel) _ _ _).trans rfl
theorem e125_70n (v0 v1 v2 v3 v4 : Value) (st : List Value) (w : zH) : zrun none (125, 70, [v0, v1, v2, v3, v4, .null], st, w) = zrun none (125, 72, [v0, v1, v2, v3, v4, .null], (.null :: st), w) := (zE_ (i := .aload 5) (by decide +kernel) _ _ _).trans rfl
theorem e125_72 (ls : List Value) (a : Nat) (st : List Value) (w : zH) : zrun none (125, 72, ls, (.ref a :: st), w) = zo (zf w a 401) (fun x => zrun none (125, 75, ls, (x :: st), w)) := (zE_ (i := .getfield 401) (by decide +kernel) _ _ _).trans zq_getf
theorem e125_75 (v0 v2 v3 v4 v5 : Value) (x : Nat) (st : List Value) (w : zH) : zrun none (125, 75, [v0, .ref x, v2, v3, v4, v5], st, w) = zrun none (125, 76, [v0, .ref x, v2, v3, v4, v5], (.ref x :: st), w) := (zE_ (i := .aload_n 1) (by decide +kernel) _ _ _).trans rfl
theorem e125_75n (v0 v2 v3 v4 v5 : Value) (st : List Value) (w : zH) : zrun none (125, 75, [v0, .null, v2, v3, v4, v5], st, w) = zrun none (125, 76, [v0, .null, v2, v3, v4, v5], (.null :: st), w) := (zE_ (i := .aload_n 1) (by decide +kernel) _ _ _).trans rfl
theorem e125_76 (ls : List Value) (a : Nat) (st : List Value) (w : zH) : zrun none (125, 76, ls, (.ref a :: st), w) = zo (zf w a 1001) (fun x => zrun none (125, 79, ls, (x :: st), w)) := (zE_ (i := .getfield 1001) (by decide +kernel) _ _ _).trans zq_getf
theorem e125_79 (ls : List Value) (a b : Int32) (st : List Value) (w : zH) : zrun none (125, 79, ls, (.int b :: .int a :: st), w) = if a = b then zrun none (125, 82, ls, st, w) else zrun none (125, 96, ls, st, w) := (zE_ (i := .if_icmp .ne 17) (by decide +kernel) _ _ _).trans (zq_ic_ne rfl rfl)
theorem e125_82 (v0 v1 v2 v4 v5 : Value) (x : Int32) (st : List Value) (w : zH) : zrun none (125, 82, [v0, v1, v2, .int x, v4, v5], st, w) = zrun none (125, 83, [v0, v1, v2, .int x, v4, v5], (.int x :: st), w) := (zE_ (i := .iload_n 3) (by decide +kernel) _ _ _).trans rfl
theorem e125_83 (v0 v1 v2 v3 v4 : Value) (x : Nat) (st : List Value) (w : zH) : zrun none (125, 83, [v0, v1, v2, v3, v4, .ref x], st, w) = zrun none (125, 85, [v0, v1, v2, v3, v4, .ref x], (.ref x :: st), w) := (zE_ (i := .aload 5) (by decide +kernel) _ _ _).trans rfl
theorem e125_83n (v0 v1 v2 v3 v4 : Value) (st : List Value) (w : zH) : zrun none (125, 83, [v0, v1, v2, v3, v4, .null], st, w) = zrun none (125, 85, [v0, v1, v2, v3, v4, .null], (.null :: st), w) := (zE_ (i := .aload 5) (by decide +kernel) _ _ _).trans rfl
theorem e125_85 (v0 v2 v3 v4 v5 : Value) (x : Nat) (st : List Value) (w : zH) : zrun none (125, 85, [v0, .ref x, v2, v3, v4, v5], st, w) = zrun none (125, 86, [v0, .ref x, v2, v3, v4, v5], (.ref x :: st), w) := (zE_ (i := .aload_n 1) (by decide +kernel) _ _ _).trans rfl
theorem e125_85n (v0 v2 v3 v4 v5 : Value) (st : List Value) (w : zH) : zrun none (125, 85, [v0, .null, v2, v3, v4, v5], st, w) = zrun none (125, 86, [v0, .null, v2, v3, v4, v5], (.null :: st), w) := (zE_ (i := .aload_n 1) (by decide +kernel) _ _ _).trans rfl
theorem e125_86 (ls : List Value) (a : Nat) (st : List Value) (w : zH) : zrun none (125, 86, ls, (.ref a :: st), w) = zo (zf w a 1002) (fun x => zrun none (125, 89, ls, (x :: st), w)) := (zE_ (i := .getfield 1002) (by decide +kernel) _ _ _).trans zq_getf
theorem e125_89 (ls : List Value) (a : Nat) (x0 : Int32) (st : List Value) (w : zH) (hr : zcat st ≤ 8) : zrun none (125, 89, ls, (.int x0 :: .ref a :: st), w) = zgd (zis w a 4) (zcl (zrun none (21, 0, [.ref a, .int x0], [], w)) (fun r => zrun none (125, 92, ls, r.1.toList ++ st, r.2))) := by
  refine (zE_ (i := .invokevirtual 21) (by decide +kernel) _ _ _).trans ?_
  show zres (zinv none 21 125 89 ls (.int x0 :: .ref a :: st) w) = _
  unfold zinv
  show zres (if zrc none 21 w (.ref a) = true then zcall 21 [.ref a, .int x0] st 125 89 ls w else none) = _
  by_cases hc : zis w a 4
  · rw [if_pos (zrc_is hc (by decide +kernel)), zgd_pos hc]
    exact zq_call hr (Nat.le_of_ble_eq_true rfl) rfl rfl
  · rw [zgd_neg hc, if_neg (fun q => hc (zrc_of q (by decide +kernel)))]
    rfl
theorem e125_92 (ls : List Value) (x0 : Int32) (x1 : Int32) (st : List Value) (w : zH) (hr : zcat st ≤ 8) : zrun none (125, 92, ls, (.int x1 :: .int x0 :: st), w) = zcl (zrun none (229, 0, [.int x0, .int x1], [], w)) (fun r => zrun none (125, 95, ls, r.1.toList ++ st, r.2)) := by
  refine (zE_ (i := .invokestatic 229) (by decide +kernel) _ _ _).trans ?_
  show zres (if (99 : Nat) = 99 ∧ 2 ≤ ((.int x1 :: .int x0 :: st) : List Value).length then zcall 229 [.int x0, .int x1] st 125 92 ls w else none) = _
  rw [if_pos ⟨rfl, by simp⟩]
  exact zq_call hr (Nat.le_of_ble_eq_true rfl) rfl rfl
theorem e125_95 (v0 v1 v2 v3 v4 v5 : Value) (x : Int32) (st : List Value) (w : zH) (h : v2.category = 1) : zrun none (125, 95, [v0, v1, v2, v3, v4, v5], (.int x :: st), w) = zrun none (125, 96, [v0, v1, v2, .int x, v4, v5], st, w) := by
  refine (zE_ (i := .istore_n 3) (by decide +kernel) _ _ _).trans ?_
  have hz : zfree [v0, v1, v2, v3, v4, v5] 3 = true := by show decide (v2.category = 1) = true; exact decide_eq_true h
  show zres (zst zint 3 1 125 95 [v0, v1, v2, v3, v4, v5] (.int x :: st) w) = _
  unfold zst
  dsimp only
  rw [if_pos ⟨rfl, Nat.le_of_ble_eq_true rfl, hz⟩]
  rfl
theorem e125_96 (v0 v1 v2 v3 v5 : Value) (x : Int32) (st : List Value) (w : zH) : zrun none (125, 96, [v0, v1, v2, v3, .int x, v5], st, w) = zrun none (125, 99, [v0, v1, v2, v3, .int (x + 1), v5], st, w) := (zE_ (i := .iinc 4 1) (by decide +kernel) _ _ _).trans rfl
theorem e125_99 (ls st : List Value) (w : zH) : zrun none (125, 99, ls, st, w) = zrun none (125, 36, ls, st, w) := (zE_ (i := .goto (-63)) (by decide +kernel) _ _ _).trans rfl
theorem e125_102 (v0 v1 v2 v4 v5 : Value) (x : Int32) (st : List Value) (w : zH) : zrun none (125, 102, [v0, v1, v2, .int x, v4, v5], st, w) = zrun none (125, 103, [v0, v1, v2, .int x, v4, v5], (.int x :: st), w) := (zE_ (i := .iload_n 3) (by decide +kernel) _ _ _).trans rfl
theorem e125_103 (ls : List Value) (x : Int32) (w : zH) : zrun none (125, 103, ls, [.int x], w) = some (some (.int x), w) := by
  refine (zE_ (i := .ireturn) (by decide +kernel) _ _ _).trans ?_
  show zres (if narrow .int (.int x) = .int x then _ else none) = _
  rw [if_pos (show narrow .int (.int x) = .int x from rfl)]
  rfl
theorem e126_0 (v1 v2 v3 : Value) (x : Nat) (st : List Value) (w : zH) : zrun none (126, 0, [.ref x, v1, v2, v3], st, w) = zrun none (126, 1, [.ref x, v1, v2, v3], (.ref x :: st), w) := (zE_ (i := .aload_n 0) (by decide +kernel) _ _ _).trans rfl
theorem e126_1 (v0 v2 v3 : Value) (x : Nat) (st : List Value) (w : zH) : zrun none (126, 1, [v0, .ref x, v2, v3], st, w) = zrun none (126, 2, [v0, .ref x, v2, v3], (.ref x :: st), w) := (zE_ (i := .aload_n 1) (by decide +kernel) _ _ _).trans rfl
theorem e126_1n (v0 v2 v3 : Value) (st : List Value) (w : zH) : zrun none (126, 1, [v0, .null, v2, v3], st, w) = zrun none (126, 2, [v0, .null, v2, v3], (.null :: st), w) := (zE_ (i := .aload_n 1) (by decide +kernel) _ _ _).trans rfl
theorem e126_2 (ls : List Value) (a : Nat) (st : List Value) (w : zH) : zrun none (126, 2, ls, (.ref a :: st), w) = zo (zf w a 1000) (fun x => zrun none (126, 5, ls, (x :: st), w)) := (zE_ (i := .getfield 1000) (by decide +kernel) _ _ _).trans zq_getf
theorem e126_5 (ls : List Value) (a : Nat) (x0 : Int32) (st : List Value) (w : zH) (hr : zcat st ≤ 8) : zrun none (126, 5, ls, (.int x0 :: .ref a :: st), w) = zgd (zis w a 11) (zcl (zrun none (111, 0, [.ref a, .int x0], [], w)) (fun r => zrun none (126, 8, ls, r.1.toList ++ st, r.2))) := by
  refine (zE_ (i := .invokevirtual 111) (by decide +kernel) _ _ _).trans ?_
  show zres (zinv none 111 126 5 ls (.int x0 :: .ref a :: st) w) = _
  unfold zinv
  show zres (if zrc none 111 w (.ref a) = true then zcall 111 [.ref a, .int x0] st 126 5 ls w else none) = _
  by_cases hc : zis w a 11
  · rw [if_pos (zrc_is hc (by decide +kernel)), zgd_pos hc]
    exact zq_call hr (Nat.le_of_ble_eq_true rfl) rfl rfl
  · rw [zgd_neg hc, if_neg (fun q => hc (zrc_of q (by decide +kernel)))]
    rfl
theorem e126_8 (v0 v1 v2 v3 : Value) (x : Nat) (st : List Value) (w : zH) (h : v2.category = 1) : zrun none (126, 8, [v0, v1, v2, v3], (.ref x :: st), w) = zrun none (126, 9, [v0, v1, v2, .ref x], st, w) := by
  refine (zE_ (i := .astore_n 3) (by decide +kernel) _ _ _).trans ?_
  have hz : zfree [v0, v1, v2, v3] 3 = true := by show decide (v2.category = 1) = true; exact decide_eq_true h
  show zres (zst zref 3 1 126 8 [v0, v1, v2, v3] (.ref x :: st) w) = _
  unfold zst
  dsimp only
  rw [if_pos ⟨rfl, Nat.le_of_ble_eq_true rfl, hz⟩]
  rfl
theorem e126_8n (v0 v1 v2 v3 : Value) (st : List Value) (w : zH) (h : v2.category = 1) : zrun none (126, 8, [v0, v1, v2, v3], (.null :: st), w) = zrun none (126, 9, [v0, v1, v2, .null], st, w) := by
  refine (zE_ (i := .astore_n 3) (by decide +kernel) _ _ _).trans ?_
  have hz : zfree [v0, v1, v2, v3] 3 = true := by show decide (v2.category = 1) = true; exact decide_eq_true h
  show zres (zst zref 3 1 126 8 [v0, v1, v2, v3] (.null :: st) w) = _
  unfold zst
  dsimp only
  rw [if_pos ⟨rfl, Nat.le_of_ble_eq_true rfl, hz⟩]
  rfl
theorem e126_9 (v0 v1 v3 : Value) (x : Int32) (st : List Value) (w : zH) : zrun none (126, 9, [v0, v1, .int x, v3], st, w) = zrun none (126, 10, [v0, v1, .int x, v3], (.int x :: st), w) := (zE_ (i := .iload_n 2) (by decide +kernel) _ _ _).trans rfl
theorem e126_10 (ls st : List Value) (w : zH) : zrun none (126, 10, ls, st, w) = zrun none (126, 11, ls, (.int 4 :: st), w) := (zE_ (i := .iconst 4) (by decide +kernel) _ _ _).trans rfl
theorem e126_11 (ls : List Value) (a b : Int32) (st : List Value) (w : zH) : zrun none (126, 11, ls, (.int b :: .int a :: st), w) = if a = b then zrun none (126, 14, ls, st, w) else zrun none (126, 18, ls, st, w) := (zE_ (i := .if_icmp .ne 7) (by decide +kernel) _ _ _).trans (zq_ic_ne rfl rfl)
theorem e126_14 (v0 v1 v2 : Value) (x : Nat) (st : List Value) (w : zH) : zrun none (126, 14, [v0, v1, v2, .ref x], st, w) = zrun none (126, 15, [v0, v1, v2, .ref x], (.ref x :: st), w) := (zE_ (i := .aload_n 3) (by decide +kernel) _ _ _).trans rfl
theorem e126_14n (v0 v1 v2 : Value) (st : List Value) (w : zH) : zrun none (126, 14, [v0, v1, v2, .null], st, w) = zrun none (126, 15, [v0, v1, v2, .null], (.null :: st), w) := (zE_ (i := .aload_n 3) (by decide +kernel) _ _ _).trans rfl
theorem e126_15n (ls st : List Value) (w : zH) : zrun none (126, 15, ls, (.null :: st), w) = zrun none (126, 18, ls, st, w) := (zE_ (i := .ifnonnull 14) (by decide +kernel) _ _ _).trans rfl
theorem e126_15 (ls : List Value) (a : Nat) (st : List Value) (w : zH) (h : a < zX) : zrun none (126, 15, ls, (.ref a :: st), w) = zrun none (126, 29, ls, st, w) := by
  refine (zE_ (i := .ifnonnull 14) (by decide +kernel) _ _ _).trans ?_
  simp only [zI, if_pos h]
  rfl
theorem e126_18 (v0 v1 v3 : Value) (x : Int32) (st : List Value) (w : zH) : zrun none (126, 18, [v0, v1, .int x, v3], st, w) = zrun none (126, 19, [v0, v1, .int x, v3], (.int x :: st), w) := (zE_ (i := .iload_n 2) (by decide +kernel) _ _ _).trans rfl
theorem e126_19 (ls st : List Value) (w : zH) : zrun none (126, 19, ls, st, w) = zrun none (126, 20, ls, (.int 5 :: st), w) := (zE_ (i := .iconst 5) (by decide +kernel) _ _ _).trans rfl
theorem e126_20 (ls : List Value) (a b : Int32) (st : List Value) (w : zH) : zrun none (126, 20, ls, (.int b :: .int a :: st), w) = if a = b then zrun none (126, 23, ls, st, w) else zrun none (126, 27, ls, st, w) := (zE_ (i := .if_icmp .ne 7) (by decide +kernel) _ _ _).trans (zq_ic_ne rfl rfl)
theorem e126_23 (ls st : List Value) (w : zH) : zrun none (126, 23, ls, st, w) = zrun none (126, 24, ls, (.int 1 :: st), w) := (zE_ (i := .iconst 1) (by decide +kernel) _ _ _).trans rfl
theorem e126_24 (ls st : List Value) (w : zH) : zrun none (126, 24, ls, st, w) = zrun none (126, 28, ls, st, w) := (zE_ (i := .goto 4) (by decide +kernel) _ _ _).trans rfl
theorem e126_27 (ls st : List Value) (w : zH) : zrun none (126, 27, ls, st, w) = zrun none (126, 28, ls, (.int 0 :: st), w) := (zE_ (i := .iconst 0) (by decide +kernel) _ _ _).trans rfl
theorem e126_28 (ls : List Value) (x : Int32) (w : zH) (h : narrow .boolean (.int x) = .int x) : zrun none (126, 28, ls, [.int x], w) = some (some (.int x), w) := by
  refine (zE_ (i := .ireturn) (by decide +kernel) _ _ _).trans ?_
  show zres (if narrow .boolean (.int x) = .int x then _ else none) = _
  rw [if_pos h]
  rfl
theorem e126_29 (v1 v2 v3 : Value) (x : Nat) (st : List Value) (w : zH) : zrun none (126, 29, [.ref x, v1, v2, v3], st, w) = zrun none (126, 30, [.ref x, v1, v2, v3], (.ref x :: st), w) := (zE_ (i := .aload_n 0) (by decide +kernel) _ _ _).trans rfl
theorem e126_30 (v0 v1 v2 : Value) (x : Nat) (st : List Value) (w : zH) : zrun none (126, 30, [v0, v1, v2, .ref x], st, w) = zrun none (126, 31, [v0, v1, v2, .ref x], (.ref x :: st), w) := (zE_ (i := .aload_n 3) (by decide +kernel) _ _ _).trans rfl
theorem e126_30n (v0 v1 v2 : Value) (st : List Value) (w : zH) : zrun none (126, 30, [v0, v1, v2, .null], st, w) = zrun none (126, 31, [v0, v1, v2, .null], (.null :: st), w) := (zE_ (i := .aload_n 3) (by decide +kernel) _ _ _).trans rfl
theorem e126_31 (v0 v2 v3 : Value) (x : Nat) (st : List Value) (w : zH) : zrun none (126, 31, [v0, .ref x, v2, v3], st, w) = zrun none (126, 32, [v0, .ref x, v2, v3], (.ref x :: st), w) := (zE_ (i := .aload_n 1) (by decide +kernel) _ _ _).trans rfl
theorem e126_31n (v0 v2 v3 : Value) (st : List Value) (w : zH) : zrun none (126, 31, [v0, .null, v2, v3], st, w) = zrun none (126, 32, [v0, .null, v2, v3], (.null :: st), w) := (zE_ (i := .aload_n 1) (by decide +kernel) _ _ _).trans rfl
theorem e126_32 (ls : List Value) (a : Nat) (st : List Value) (w : zH) : zrun none (126, 32, ls, (.ref a :: st), w) = zo (zf w a 1002) (fun x => zrun none (126, 35, ls, (x :: st), w)) := (zE_ (i := .getfield 1002) (by decide +kernel) _ _ _).trans zq_getf
theorem e126_35 (ls : List Value) (a : Nat) (x0 : Nat) (x1 : Int32) (st : List Value) (w : zH) (hr : zcat st ≤ 8) : zrun none (126, 35, ls, (.int x1 :: .ref x0 :: .ref a :: st), w) = zgd (zis w a 11) (zcl (zrun none (117, 0, [.ref a, .ref x0, .int x1, zJ, zJ], [], w)) (fun r => zrun none (126, 38, ls, r.1.toList ++ st, r.2))) := by
  refine (zE_ (i := .invokevirtual 117) (by decide +kernel) _ _ _).trans ?_
  show zres (zinv none 117 126 35 ls (.int x1 :: .ref x0 :: .ref a :: st) w) = _
  unfold zinv
  show zres (if zrc none 117 w (.ref a) = true then zcall 117 [.ref a, .ref x0, .int x1] st 126 35 ls w else none) = _
  by_cases hc : zis w a 11
  · rw [if_pos (zrc_is hc (by decide +kernel)), zgd_pos hc]
    exact zq_call hr (Nat.le_of_ble_eq_true rfl) rfl rfl
  · rw [zgd_neg hc, if_neg (fun q => hc (zrc_of q (by decide +kernel)))]
    rfl
theorem e126_38 (ls st : List Value) (w : zH) : zrun none (126, 38, ls, st, w) = zrun none (126, 39, ls, (.int 1 :: st), w) := (zE_ (i := .iconst 1) (by decide +kernel) _ _ _).trans rfl
theorem e126_39 (ls : List Value) (x0 : Int32) (x1 : Int32) (st : List Value) (w : zH) (hr : zcat st ≤ 8) : zrun none (126, 39, ls, (.int x1 :: .int x0 :: st), w) = zcl (zrun none (118, 0, [.int x0, .int x1], [], w)) (fun r => zrun none (126, 42, ls, r.1.toList ++ st, r.2)) := by
  refine (zE_ (i := .invokestatic 118) (by decide +kernel) _ _ _).trans ?_
  show zres (if (99 : Nat) = 99 ∧ 2 ≤ ((.int x1 :: .int x0 :: st) : List Value).length then zcall 118 [.int x0, .int x1] st 126 39 ls w else none) = _
  rw [if_pos ⟨rfl, by simp⟩]
  exact zq_call hr (Nat.le_of_ble_eq_true rfl) rfl rfl
theorem e126_42 (ls : List Value) (x : Int32) (w : zH) (h : narrow .boolean (.int x) = .int x) : zrun none (126, 42, ls, [.int x], w) = some (some (.int x), w) := by
  refine (zE_ (i := .ireturn) (by decide +kernel) _ _ _).trans ?_
  show zres (if narrow .boolean (.int x) = .int x then _ else none) = _
  rw [if_pos h]
  rfl
theorem e127_0 (v0 : Value) (x : Int32) (st : List Value) (w : zH) : zrun none (127, 0, [v0, .int x], st, w) = zrun none (127, 1, [v0, .int x], (.int x :: st), w) := (zE_ (i := .iload_n 1) (by decide +kernel) _ _ _).trans rfl
theorem e127_1 (ls : List Value) (a : Int32) (st : List Value) (w : zH) : zrun none (127, 1, ls, (.int a :: st), w) = if a = 1 then zrun none (127, 28, ls, st, w) else if a = 2 then zrun none (127, 38, ls, st, w) else if a = 3 then zrun none (127, 48, ls, st, w) else zrun none (127, 59, ls, st, w) := by
  refine (zE_ (i := .tableswitch 58 1 3 #[27, 37, 47]) (by decide +kernel) _ _ _).trans ?_
  by_cases h1001 : a = 1
  · subst h1001
    rfl
  rw [if_neg h1001]
  by_cases h1002 : a = 2
  · subst h1002
    rfl
  rw [if_neg h1002]
  by_cases h1003 : a = 3
  · subst h1003
    rfl
  rw [if_neg h1003]
  have hr : a.toInt < 1 ∨ 3 < a.toInt := by
    by_cases q1 : a.toInt < 1
    · exact Or.inl q1
    by_cases q2 : 3 < a.toInt
    · exact Or.inr q2
    exfalso
    have k1001 := zne32 h1001
    have k1002 := zne32 h1002
    have k1003 := zne32 h1003
    have j1001 : ((1 : Int32)).toInt = 1 := by decide
    rw [j1001] at k1001
    have j1002 : ((2 : Int32)).toInt = 2 := by decide
    rw [j1002] at k1002
    have j1003 : ((3 : Int32)).toInt = 3 := by decide
    rw [j1003] at k1003
    omega
  simp only [zI, if_pos hr]
  rfl
theorem e127_28 (v1 : Value) (x : Int32) (st : List Value) (w : zH) : zrun none (127, 28, [.int x, v1], st, w) = zrun none (127, 29, [.int x, v1], (.int x :: st), w) := (zE_ (i := .iload_n 0) (by decide +kernel) _ _ _).trans rfl
theorem e127_29 (ls st : List Value) (w : zH) : zrun none (127, 29, ls, st, w) = zrun none (127, 30, ls, (.int 2 :: st), w) := (zE_ (i := .iconst 2) (by decide +kernel) _ _ _).trans rfl
theorem e127_30 (ls : List Value) (a b : Int32) (st : List Value) (w : zH) (h : ¬ b = 0) : zrun none (127, 30, ls, (.int b :: .int a :: st), w) = zrun none (127, 31, ls, (.int (a / b) :: st), w) := by
  refine (zE_ (i := .idiv) (by decide +kernel) _ _ _).trans ?_
  simp only [zI, if_neg h]
  rfl
theorem e127_31 (ls st : List Value) (w : zH) : zrun none (127, 31, ls, st, w) = zrun none (127, 34, ls, (.int 30000 :: st), w) := (zE_ (i := .sipush 30000) (by decide +kernel) _ _ _).trans rfl
theorem e127_34 (ls : List Value) (x0 : Int32) (x1 : Int32) (st : List Value) (w : zH) (hr : zcat st ≤ 8) : zrun none (127, 34, ls, (.int x1 :: .int x0 :: st), w) = zcl (zrun none (229, 0, [.int x0, .int x1], [], w)) (fun r => zrun none (127, 37, ls, r.1.toList ++ st, r.2)) := by
  refine (zE_ (i := .invokestatic 229) (by decide +kernel) _ _ _).trans ?_
  show zres (if (99 : Nat) = 99 ∧ 2 ≤ ((.int x1 :: .int x0 :: st) : List Value).length then zcall 229 [.int x0, .int x1] st 127 34 ls w else none) = _
  rw [if_pos ⟨rfl, by simp⟩]
  exact zq_call hr (Nat.le_of_ble_eq_true rfl) rfl rfl
theorem e127_37 (ls : List Value) (x : Int32) (w : zH) : zrun none (127, 37, ls, [.int x], w) = some (some (.int x), w) := by
  refine (zE_ (i := .ireturn) (by decide +kernel) _ _ _).trans ?_
  show zres (if narrow .int (.int x) = .int x then _ else none) = _
  rw [if_pos (show narrow .int (.int x) = .int x from rfl)]
  rfl
theorem e127_38 (v1 : Value) (x : Int32) (st : List Value) (w : zH) : zrun none (127, 38, [.int x, v1], st, w) = zrun none (127, 39, [.int x, v1], (.int x :: st), w) := (zE_ (i := .iload_n 0) (by decide +kernel) _ _ _).trans rfl
theorem e127_39 (ls st : List Value) (w : zH) : zrun none (127, 39, ls, st, w) = zrun none (127, 40, ls, (.int 3 :: st), w) := (zE_ (i := .iconst 3) (by decide +kernel) _ _ _).trans rfl
theorem e127_40 (ls : List Value) (a b : Int32) (st : List Value) (w : zH) (h : ¬ b = 0) : zrun none (127, 40, ls, (.int b :: .int a :: st), w) = zrun none (127, 41, ls, (.int (a / b) :: st), w) := by
  refine (zE_ (i := .idiv) (by decide +kernel) _ _ _).trans ?_
  simp only [zI, if_neg h]
  rfl
theorem e127_41 (ls st : List Value) (w : zH) : zrun none (127, 41, ls, st, w) = zrun none (127, 44, ls, (.int 15000 :: st), w) := (zE_ (i := .sipush 15000) (by decide +kernel) _ _ _).trans rfl
theorem e127_44 (ls : List Value) (x0 : Int32) (x1 : Int32) (st : List Value) (w : zH) (hr : zcat st ≤ 8) : zrun none (127, 44, ls, (.int x1 :: .int x0 :: st), w) = zcl (zrun none (229, 0, [.int x0, .int x1], [], w)) (fun r => zrun none (127, 47, ls, r.1.toList ++ st, r.2)) := by
  refine (zE_ (i := .invokestatic 229) (by decide +kernel) _ _ _).trans ?_
  show zres (if (99 : Nat) = 99 ∧ 2 ≤ ((.int x1 :: .int x0 :: st) : List Value).length then zcall 229 [.int x0, .int x1] st 127 44 ls w else none) = _
  rw [if_pos ⟨rfl, by simp⟩]
  exact zq_call hr (Nat.le_of_ble_eq_true rfl) rfl rfl
theorem e127_47 (ls : List Value) (x : Int32) (w : zH) : zrun none (127, 47, ls, [.int x], w) = some (some (.int x), w) := by
  refine (zE_ (i := .ireturn) (by decide +kernel) _ _ _).trans ?_
  show zres (if narrow .int (.int x) = .int x then _ else none) = _
  rw [if_pos (show narrow .int (.int x) = .int x from rfl)]
  rfl
theorem e127_48 (v1 : Value) (x : Int32) (st : List Value) (w : zH) : zrun none (127, 48, [.int x, v1], st, w) = zrun none (127, 49, [.int x, v1], (.int x :: st), w) := (zE_ (i := .iload_n 0) (by decide +kernel) _ _ _).trans rfl
theorem e127_49 (ls st : List Value) (w : zH) : zrun none (127, 49, ls, st, w) = zrun none (127, 51, ls, (.int 10 :: st), w) := (zE_ (i := .bipush 10) (by decide +kernel) _ _ _).trans rfl
theorem e127_51 (ls : List Value) (a b : Int32) (st : List Value) (w : zH) (h : ¬ b = 0) : zrun none (127, 51, ls, (.int b :: .int a :: st), w) = zrun none (127, 52, ls, (.int (a / b) :: st), w) := by
  refine (zE_ (i := .idiv) (by decide +kernel) _ _ _).trans ?_
  simp only [zI, if_neg h]
  rfl
theorem e127_52 (ls st : List Value) (w : zH) : zrun none (127, 52, ls, st, w) = zrun none (127, 55, ls, (.int 5000 :: st), w) := (zE_ (i := .sipush 5000) (by decide +kernel) _ _ _).trans rfl
theorem e127_55 (ls : List Value) (x0 : Int32) (x1 : Int32) (st : List Value) (w : zH) (hr : zcat st ≤ 8) : zrun none (127, 55, ls, (.int x1 :: .int x0 :: st), w) = zcl (zrun none (229, 0, [.int x0, .int x1], [], w)) (fun r => zrun none (127, 58, ls, r.1.toList ++ st, r.2)) := by
  refine (zE_ (i := .invokestatic 229) (by decide +kernel) _ _ _).trans ?_
  show zres (if (99 : Nat) = 99 ∧ 2 ≤ ((.int x1 :: .int x0 :: st) : List Value).length then zcall 229 [.int x0, .int x1] st 127 55 ls w else none) = _
  rw [if_pos ⟨rfl, by simp⟩]
  exact zq_call hr (Nat.le_of_ble_eq_true rfl) rfl rfl
theorem e127_58 (ls : List Value) (x : Int32) (w : zH) : zrun none (127, 58, ls, [.int x], w) = some (some (.int x), w) := by
  refine (zE_ (i := .ireturn) (by decide +kernel) _ _ _).trans ?_
  show zres (if narrow .int (.int x) = .int x then _ else none) = _
  rw [if_pos (show narrow .int (.int x) = .int x from rfl)]
  rfl
theorem e127_59 (ls st : List Value) (w : zH) : zrun none (127, 59, ls, st, w) = zrun none (127, 60, ls, (.int 0 :: st), w) := (zE_ (i := .iconst 0) (by decide +kernel) _ _ _).trans rfl
theorem e127_60 (ls : List Value) (x : Int32) (w : zH) : zrun none (127, 60, ls, [.int x], w) = some (some (.int x), w) := by
  refine (zE_ (i := .ireturn) (by decide +kernel) _ _ _).trans ?_
  show zres (if narrow .int (.int x) = .int x then _ else none) = _
  rw [if_pos (show narrow .int (.int x) = .int x from rfl)]
  rfl
theorem e128_0 (ls st : List Value) (w : zH) : zrun none (128, 0, ls, st, w) = zrun none (128, 1, ls, (.int 0 :: st), w) := (zE_ (i := .iconst 0) (by decide +kernel) _ _ _).trans rfl
theorem e128_1 (v1 v2 : Value) (x : Int32) (st : List Value) (w : zH) : zrun none (128, 1, [.int x, v1, v2], st, w) = zrun none (128, 2, [.int x, v1, v2], (.int x :: st), w) := (zE_ (i := .iload_n 0) (by decide +kernel) _ _ _).trans rfl
theorem e128_2 (v1 v2 : Value) (x : Int32) (st : List Value) (w : zH) : zrun none (128, 2, [.int x, v1, v2], st, w) = zrun none (128, 3, [.int x, v1, v2], (.int x :: st), w) := (zE_ (i := .iload_n 0) (by decide +kernel) _ _ _).trans rfl
theorem e128_3 (v0 v2 : Value) (x : Int32) (st : List Value) (w : zH) : zrun none (128, 3, [v0, .int x, v2], st, w) = zrun none (128, 4, [v0, .int x, v2], (.int x :: st), w) := (zE_ (i := .iload_n 1) (by decide +kernel) _ _ _).trans rfl
theorem e128_4 (ls : List Value) (x0 : Int32) (x1 : Int32) (st : List Value) (w : zH) (hr : zcat st ≤ 8) : zrun none (128, 4, ls, (.int x1 :: .int x0 :: st), w) = zcl (zrun none (127, 0, [.int x0, .int x1], [], w)) (fun r => zrun none (128, 7, ls, r.1.toList ++ st, r.2)) := by
  refine (zE_ (i := .invokestatic 127) (by decide +kernel) _ _ _).trans ?_
  show zres (if (99 : Nat) = 99 ∧ 2 ≤ ((.int x1 :: .int x0 :: st) : List Value).length then zcall 127 [.int x0, .int x1] st 128 4 ls w else none) = _
  rw [if_pos ⟨rfl, by simp⟩]
  exact zq_call hr (Nat.le_of_ble_eq_true rfl) rfl rfl
theorem e128_7 (ls : List Value) (a b : Int32) (st : List Value) (w : zH) : zrun none (128, 7, ls, (.int b :: .int a :: st), w) = zrun none (128, 8, ls, (.int (a - b) :: st), w) := (zE_ (i := .isub) (by decide +kernel) _ _ _).trans rfl
theorem e128_8 (v0 v1 : Value) (x : Int32) (st : List Value) (w : zH) : zrun none (128, 8, [v0, v1, .int x], st, w) = zrun none (128, 9, [v0, v1, .int x], (.int x :: st), w) := (zE_ (i := .iload_n 2) (by decide +kernel) _ _ _).trans rfl
theorem e128_9 (ls : List Value) (a b : Int32) (st : List Value) (w : zH) : zrun none (128, 9, ls, (.int b :: .int a :: st), w) = zrun none (128, 10, ls, (.int (a - b) :: st), w) := (zE_ (i := .isub) (by decide +kernel) _ _ _).trans rfl
theorem e128_10 (ls : List Value) (x0 : Int32) (x1 : Int32) (st : List Value) (w : zH) (hr : zcat st ≤ 8) : zrun none (128, 10, ls, (.int x1 :: .int x0 :: st), w) = zcl (zrun none (228, 0, [.int x0, .int x1], [], w)) (fun r => zrun none (128, 13, ls, r.1.toList ++ st, r.2)) := by
  refine (zE_ (i := .invokestatic 228) (by decide +kernel) _ _ _).trans ?_
  show zres (if (99 : Nat) = 99 ∧ 2 ≤ ((.int x1 :: .int x0 :: st) : List Value).length then zcall 228 [.int x0, .int x1] st 128 10 ls w else none) = _
  rw [if_pos ⟨rfl, by simp⟩]
  exact zq_call hr (Nat.le_of_ble_eq_true rfl) rfl rfl
theorem e128_13 (ls : List Value) (x : Int32) (w : zH) : zrun none (128, 13, ls, [.int x], w) = some (some (.int x), w) := by
  refine (zE_ (i := .ireturn) (by decide +kernel) _ _ _).trans ?_
  show zres (if narrow .int (.int x) = .int x then _ else none) = _
  rw [if_pos (show narrow .int (.int x) = .int x from rfl)]
  rfl
theorem e129_0 (ls st : List Value) (w : zH) : zrun none (129, 0, ls, st, w) = zrun none (129, 1, ls, (.int 0 :: st), w) := (zE_ (i := .iconst 0) (by decide +kernel) _ _ _).trans rfl
theorem e129_1 (v0 v1 v2 v3 v4 v5 v6 v7 v8 : Value) (x : Int32) (st : List Value) (w : zH) (h : v3.category = 1) : zrun none (129, 1, [v0, v1, v2, v3, v4, v5, v6, v7, v8], (.int x :: st), w) = zrun none (129, 3, [v0, v1, v2, v3, .int x, v5, v6, v7, v8], st, w) := by
  refine (zE_ (i := .istore 4) (by decide +kernel) _ _ _).trans ?_
  have hz : zfree [v0, v1, v2, v3, v4, v5, v6, v7, v8] 4 = true := by show decide (v3.category = 1) = true; exact decide_eq_true h
  show zres (zst zint 4 2 129 1 [v0, v1, v2, v3, v4, v5, v6, v7, v8] (.int x :: st) w) = _
  unfold zst
  dsimp only
  rw [if_pos ⟨rfl, Nat.le_of_ble_eq_true rfl, hz⟩]
  rfl
theorem e129_3 (ls st : List Value) (w : zH) : zrun none (129, 3, ls, st, w) = zrun none (129, 4, ls, (.int 0 :: st), w) := (zE_ (i := .iconst 0) (by decide +kernel) _ _ _).trans rfl
theorem e129_4 (v0 v1 v2 v3 v4 v5 v6 v7 v8 : Value) (x : Int32) (st : List Value) (w : zH) (h : v4.category = 1) : zrun none (129, 4, [v0, v1, v2, v3, v4, v5, v6, v7, v8], (.int x :: st), w) = zrun none (129, 6, [v0, v1, v2, v3, v4, .int x, v6, v7, v8], st, w) := by
  refine (zE_ (i := .istore 5) (by decide +kernel) _ _ _).trans ?_
  have hz : zfree [v0, v1, v2, v3, v4, v5, v6, v7, v8] 5 = true := by show decide (v4.category = 1) = true; exact decide_eq_true h
  show zres (zst zint 5 2 129 4 [v0, v1, v2, v3, v4, v5, v6, v7, v8] (.int x :: st) w) = _
  unfold zst
  dsimp only
  rw [if_pos ⟨rfl, Nat.le_of_ble_eq_true rfl, hz⟩]
  rfl
theorem e129_6 (ls st : List Value) (w : zH) : zrun none (129, 6, ls, st, w) = zrun none (129, 7, ls, (.int 0 :: st), w) := (zE_ (i := .iconst 0) (by decide +kernel) _ _ _).trans rfl
theorem e129_7 (v0 v1 v2 v3 v4 v5 v6 v7 v8 : Value) (x : Int32) (st : List Value) (w : zH) (h : v5.category = 1) : zrun none (129, 7, [v0, v1, v2, v3, v4, v5, v6, v7, v8], (.int x :: st), w) = zrun none (129, 9, [v0, v1, v2, v3, v4, v5, .int x, v7, v8], st, w) := by
  refine (zE_ (i := .istore 6) (by decide +kernel) _ _ _).trans ?_
  have hz : zfree [v0, v1, v2, v3, v4, v5, v6, v7, v8] 6 = true := by show decide (v5.category = 1) = true; exact decide_eq_true h
  show zres (zst zint 6 2 129 7 [v0, v1, v2, v3, v4, v5, v6, v7, v8] (.int x :: st) w) = _
  unfold zst
  dsimp only
  rw [if_pos ⟨rfl, Nat.le_of_ble_eq_true rfl, hz⟩]
  rfl
theorem e129_9 (v0 v1 v2 v3 v4 v5 v7 v8 : Value) (x : Int32) (st : List Value) (w : zH) : zrun none (129, 9, [v0, v1, v2, v3, v4, v5, .int x, v7, v8], st, w) = zrun none (129, 11, [v0, v1, v2, v3, v4, v5, .int x, v7, v8], (.int x :: st), w) := (zE_ (i := .iload 6) (by decide +kernel) _ _ _).trans rfl
theorem e129_11 (v0 v1 v2 v4 v5 v6 v7 v8 : Value) (x : Int32) (st : List Value) (w : zH) : zrun none (129, 11, [v0, v1, v2, .int x, v4, v5, v6, v7, v8], st, w) = zrun none (129, 12, [v0, v1, v2, .int x, v4, v5, v6, v7, v8], (.int x :: st), w) := (zE_ (i := .iload_n 3) (by decide +kernel) _ _ _).trans rfl
theorem e129_12 (ls : List Value) (a b : Int32) (st : List Value) (w : zH) : zrun none (129, 12, ls, (.int b :: .int a :: st), w) = if b ≤ a then zrun none (129, 92, ls, st, w) else zrun none (129, 15, ls, st, w) := (zE_ (i := .if_icmp .ge 80) (by decide +kernel) _ _ _).trans (zq_ic_ge rfl rfl)
theorem e129_15 (v0 v1 v2 v3 v4 v5 v7 v8 : Value) (x : Int32) (st : List Value) (w : zH) : zrun none (129, 15, [v0, v1, v2, v3, v4, v5, .int x, v7, v8], st, w) = zrun none (129, 17, [v0, v1, v2, v3, v4, v5, .int x, v7, v8], (.int x :: st), w) := (zE_ (i := .iload 6) (by decide +kernel) _ _ _).trans rfl
theorem e129_17 (ls st : List Value) (w : zH) : zrun none (129, 17, ls, st, w) = zrun none (129, 19, ls, (.int 12 :: st), w) := (zE_ (i := .bipush 12) (by decide +kernel) _ _ _).trans rfl
theorem e129_19 (ls : List Value) (a b : Int32) (st : List Value) (w : zH) : zrun none (129, 19, ls, (.int b :: .int a :: st), w) = if b ≤ a then zrun none (129, 92, ls, st, w) else zrun none (129, 22, ls, st, w) := (zE_ (i := .if_icmp .ge 73) (by decide +kernel) _ _ _).trans (zq_ic_ge rfl rfl)
theorem e129_22 (v0 v2 v3 v4 v5 v6 v7 v8 : Value) (x : Nat) (st : List Value) (w : zH) : zrun none (129, 22, [v0, .ref x, v2, v3, v4, v5, v6, v7, v8], st, w) = zrun none (129, 23, [v0, .ref x, v2, v3, v4, v5, v6, v7, v8], (.ref x :: st), w) := (zE_ (i := .aload_n 1) (by decide +kernel) _ _ _).trans rfl
theorem e129_22n (v0 v2 v3 v4 v5 v6 v7 v8 : Value) (st : List Value) (w : zH) : zrun none (129, 22, [v0, .null, v2, v3, v4, v5, v6, v7, v8], st, w) = zrun none (129, 23, [v0, .null, v2, v3, v4, v5, v6, v7, v8], (.null :: st), w) := (zE_ (i := .aload_n 1) (by decide +kernel) _ _ _).trans rfl
theorem e129_23 (v0 v1 v3 v4 v5 v6 v7 v8 : Value) (x : Int32) (st : List Value) (w : zH) : zrun none (129, 23, [v0, v1, .int x, v3, v4, v5, v6, v7, v8], st, w) = zrun none (129, 24, [v0, v1, .int x, v3, v4, v5, v6, v7, v8], (.int x :: st), w) := (zE_ (i := .iload_n 2) (by decide +kernel) _ _ _).trans rfl
theorem e129_24 (ls st : List Value) (w : zH) : zrun none (129, 24, ls, st, w) = zrun none (129, 25, ls, (.int 2 :: st), w) := (zE_ (i := .iconst 2) (by decide +kernel) _ _ _).trans rfl
theorem e129_25 (v0 v1 v2 v3 v4 v5 v7 v8 : Value) (x : Int32) (st : List Value) (w : zH) : zrun none (129, 25, [v0, v1, v2, v3, v4, v5, .int x, v7, v8], st, w) = zrun none (129, 27, [v0, v1, v2, v3, v4, v5, .int x, v7, v8], (.int x :: st), w) := (zE_ (i := .iload 6) (by decide +kernel) _ _ _).trans rfl
theorem e129_27 (ls : List Value) (a b : Int32) (st : List Value) (w : zH) : zrun none (129, 27, ls, (.int b :: .int a :: st), w) = zrun none (129, 28, ls, (.int (a * b) :: st), w) := (zE_ (i := .imul) (by decide +kernel) _ _ _).trans rfl
theorem e129_28 (ls : List Value) (a b : Int32) (st : List Value) (w : zH) : zrun none (129, 28, ls, (.int b :: .int a :: st), w) = zrun none (129, 29, ls, (.int (a + b) :: st), w) := (zE_ (i := .iadd) (by decide +kernel) _ _ _).trans rfl
theorem e129_29 (ls : List Value) (a : Nat) (x0 : Int32) (st : List Value) (w : zH) (hr : zcat st ≤ 8) : zrun none (129, 29, ls, (.int x0 :: .ref a :: st), w) = zgd (zis w a 8) (zcl (zrun none (37, 0, [.ref a, .int x0], [], w)) (fun r => zrun none (129, 32, ls, r.1.toList ++ st, r.2))) := by
  refine (zE_ (i := .invokevirtual 37) (by decide +kernel) _ _ _).trans ?_
  show zres (zinv none 37 129 29 ls (.int x0 :: .ref a :: st) w) = _
  unfold zinv
  show zres (if zrc none 37 w (.ref a) = true then zcall 37 [.ref a, .int x0] st 129 29 ls w else none) = _
  by_cases hc : zis w a 8
  · rw [if_pos (zrc_is hc (by decide +kernel)), zgd_pos hc]
    exact zq_call hr (Nat.le_of_ble_eq_true rfl) rfl rfl
  · rw [zgd_neg hc, if_neg (fun q => hc (zrc_of q (by decide +kernel)))]
    rfl
theorem e129_32 (v0 v1 v2 v3 v4 v5 v6 v7 v8 : Value) (x : Int32) (st : List Value) (w : zH) (h : v6.category = 1) : zrun none (129, 32, [v0, v1, v2, v3, v4, v5, v6, v7, v8], (.int x :: st), w) = zrun none (129, 34, [v0, v1, v2, v3, v4, v5, v6, .int x, v8], st, w) := by
  refine (zE_ (i := .istore 7) (by decide +kernel) _ _ _).trans ?_
  have hz : zfree [v0, v1, v2, v3, v4, v5, v6, v7, v8] 7 = true := by show decide (v6.category = 1) = true; exact decide_eq_true h
  show zres (zst zint 7 2 129 32 [v0, v1, v2, v3, v4, v5, v6, v7, v8] (.int x :: st) w) = _
  unfold zst
  dsimp only
  rw [if_pos ⟨rfl, Nat.le_of_ble_eq_true rfl, hz⟩]
  rfl
theorem e129_34 (v0 v2 v3 v4 v5 v6 v7 v8 : Value) (x : Nat) (st : List Value) (w : zH) : zrun none (129, 34, [v0, .ref x, v2, v3, v4, v5, v6, v7, v8], st, w) = zrun none (129, 35, [v0, .ref x, v2, v3, v4, v5, v6, v7, v8], (.ref x :: st), w) := (zE_ (i := .aload_n 1) (by decide +kernel) _ _ _).trans rfl
theorem e129_34n (v0 v2 v3 v4 v5 v6 v7 v8 : Value) (st : List Value) (w : zH) : zrun none (129, 34, [v0, .null, v2, v3, v4, v5, v6, v7, v8], st, w) = zrun none (129, 35, [v0, .null, v2, v3, v4, v5, v6, v7, v8], (.null :: st), w) := (zE_ (i := .aload_n 1) (by decide +kernel) _ _ _).trans rfl
theorem e129_35 (v0 v1 v3 v4 v5 v6 v7 v8 : Value) (x : Int32) (st : List Value) (w : zH) : zrun none (129, 35, [v0, v1, .int x, v3, v4, v5, v6, v7, v8], st, w) = zrun none (129, 36, [v0, v1, .int x, v3, v4, v5, v6, v7, v8], (.int x :: st), w) := (zE_ (i := .iload_n 2) (by decide +kernel) _ _ _).trans rfl
theorem e129_36 (ls st : List Value) (w : zH) : zrun none (129, 36, ls, st, w) = zrun none (129, 37, ls, (.int 2 :: st), w) := (zE_ (i := .iconst 2) (by decide +kernel) _ _ _).trans rfl
theorem e129_37 (v0 v1 v2 v3 v4 v5 v7 v8 : Value) (x : Int32) (st : List Value) (w : zH) : zrun none (129, 37, [v0, v1, v2, v3, v4, v5, .int x, v7, v8], st, w) = zrun none (129, 39, [v0, v1, v2, v3, v4, v5, .int x, v7, v8], (.int x :: st), w) := (zE_ (i := .iload 6) (by decide +kernel) _ _ _).trans rfl
theorem e129_39 (ls : List Value) (a b : Int32) (st : List Value) (w : zH) : zrun none (129, 39, ls, (.int b :: .int a :: st), w) = zrun none (129, 40, ls, (.int (a * b) :: st), w) := (zE_ (i := .imul) (by decide +kernel) _ _ _).trans rfl
theorem e129_40 (ls : List Value) (a b : Int32) (st : List Value) (w : zH) : zrun none (129, 40, ls, (.int b :: .int a :: st), w) = zrun none (129, 41, ls, (.int (a + b) :: st), w) := (zE_ (i := .iadd) (by decide +kernel) _ _ _).trans rfl
theorem e129_41 (ls st : List Value) (w : zH) : zrun none (129, 41, ls, st, w) = zrun none (129, 42, ls, (.int 1 :: st), w) := (zE_ (i := .iconst 1) (by decide +kernel) _ _ _).trans rfl
theorem e129_42 (ls : List Value) (a b : Int32) (st : List Value) (w : zH) : zrun none (129, 42, ls, (.int b :: .int a :: st), w) = zrun none (129, 43, ls, (.int (a + b) :: st), w) := (zE_ (i := .iadd) (by decide +kernel) _ _ _).trans rfl
theorem e129_43 (ls : List Value) (a : Nat) (x0 : Int32) (st : List Value) (w : zH) (hr : zcat st ≤ 8) : zrun none (129, 43, ls, (.int x0 :: .ref a :: st), w) = zgd (zis w a 8) (zcl (zrun none (37, 0, [.ref a, .int x0], [], w)) (fun r => zrun none (129, 46, ls, r.1.toList ++ st, r.2))) := by
  refine (zE_ (i := .invokevirtual 37) (by decide +kernel) _ _ _).trans ?_
  show zres (zinv none 37 129 43 ls (.int x0 :: .ref a :: st) w) = _
  unfold zinv
  show zres (if zrc none 37 w (.ref a) = true then zcall 37 [.ref a, .int x0] st 129 43 ls w else none) = _
  by_cases hc : zis w a 8
  · rw [if_pos (zrc_is hc (by decide +kernel)), zgd_pos hc]
    exact zq_call hr (Nat.le_of_ble_eq_true rfl) rfl rfl
  · rw [zgd_neg hc, if_neg (fun q => hc (zrc_of q (by decide +kernel)))]
    rfl
theorem e129_46 (v0 v1 v2 v3 v4 v5 v6 v7 v8 : Value) (x : Int32) (st : List Value) (w : zH) (h : v7.category = 1) : zrun none (129, 46, [v0, v1, v2, v3, v4, v5, v6, v7, v8], (.int x :: st), w) = zrun none (129, 48, [v0, v1, v2, v3, v4, v5, v6, v7, .int x], st, w) := by
  refine (zE_ (i := .istore 8) (by decide +kernel) _ _ _).trans ?_
  have hz : zfree [v0, v1, v2, v3, v4, v5, v6, v7, v8] 8 = true := by show decide (v7.category = 1) = true; exact decide_eq_true h
  show zres (zst zint 8 2 129 46 [v0, v1, v2, v3, v4, v5, v6, v7, v8] (.int x :: st) w) = _
  unfold zst
  dsimp only
  rw [if_pos ⟨rfl, Nat.le_of_ble_eq_true rfl, hz⟩]
  rfl
theorem e129_48 (v1 v2 v3 v4 v5 v6 v7 v8 : Value) (x : Nat) (st : List Value) (w : zH) : zrun none (129, 48, [.ref x, v1, v2, v3, v4, v5, v6, v7, v8], st, w) = zrun none (129, 49, [.ref x, v1, v2, v3, v4, v5, v6, v7, v8], (.ref x :: st), w) := (zE_ (i := .aload_n 0) (by decide +kernel) _ _ _).trans rfl
theorem e129_49 (ls : List Value) (a : Nat) (st : List Value) (w : zH) : zrun none (129, 49, ls, (.ref a :: st), w) = zo (zf w a 1113) (fun x => zrun none (129, 52, ls, (x :: st), w)) := (zE_ (i := .getfield 1113) (by decide +kernel) _ _ _).trans zq_getf
theorem e129_52 (v0 v1 v2 v3 v4 v5 v7 v8 : Value) (x : Int32) (st : List Value) (w : zH) : zrun none (129, 52, [v0, v1, v2, v3, v4, v5, .int x, v7, v8], st, w) = zrun none (129, 54, [v0, v1, v2, v3, v4, v5, .int x, v7, v8], (.int x :: st), w) := (zE_ (i := .iload 6) (by decide +kernel) _ _ _).trans rfl
theorem e129_54 (v0 v1 v2 v3 v4 v5 v6 v8 : Value) (x : Int32) (st : List Value) (w : zH) : zrun none (129, 54, [v0, v1, v2, v3, v4, v5, v6, .int x, v8], st, w) = zrun none (129, 56, [v0, v1, v2, v3, v4, v5, v6, .int x, v8], (.int x :: st), w) := (zE_ (i := .iload 7) (by decide +kernel) _ _ _).trans rfl
theorem e129_56 (v0 v1 v2 v3 v5 v6 v7 v8 : Value) (x : Int32) (st : List Value) (w : zH) : zrun none (129, 56, [v0, v1, v2, v3, .int x, v5, v6, v7, v8], st, w) = zrun none (129, 58, [v0, v1, v2, v3, .int x, v5, v6, v7, v8], (.int x :: st), w) := (zE_ (i := .iload 4) (by decide +kernel) _ _ _).trans rfl
theorem e129_58 (ls : List Value) (a b : Int32) (st : List Value) (w : zH) : zrun none (129, 58, ls, (.int b :: .int a :: st), w) = zrun none (129, 59, ls, (.int (a - b) :: st), w) := (zE_ (i := .isub) (by decide +kernel) _ _ _).trans rfl
theorem e129_59 (ls : List Value) (x j : Int32) (a : Nat) (st : List Value) (w : zH) : zrun none (129, 59, ls, (.int x :: .int j :: .ref a :: st), w) = zgd (zin? w a 100 j) (zrun none (129, 60, ls, st, zas w a j (.int x))) := by
  refine (zE_ (i := .iastore) (by decide +kernel) _ _ _).trans ?_
  by_cases hg : zin? w a 100 j
  · rw [zgd_pos hg]
    exact zq_iast hg
  · rw [zgd_neg hg]
    exact zq_iast_no hg
theorem e129_60 (v1 v2 v3 v4 v5 v6 v7 v8 : Value) (x : Nat) (st : List Value) (w : zH) : zrun none (129, 60, [.ref x, v1, v2, v3, v4, v5, v6, v7, v8], st, w) = zrun none (129, 61, [.ref x, v1, v2, v3, v4, v5, v6, v7, v8], (.ref x :: st), w) := (zE_ (i := .aload_n 0) (by decide +kernel) _ _ _).trans rfl
theorem e129_61 (ls : List Value) (a : Nat) (st : List Value) (w : zH) : zrun none (129, 61, ls, (.ref a :: st), w) = zo (zf w a 1114) (fun x => zrun none (129, 64, ls, (x :: st), w)) := (zE_ (i := .getfield 1114) (by decide +kernel) _ _ _).trans zq_getf
theorem e129_64 (v0 v1 v2 v3 v4 v5 v7 v8 : Value) (x : Int32) (st : List Value) (w : zH) : zrun none (129, 64, [v0, v1, v2, v3, v4, v5, .int x, v7, v8], st, w) = zrun none (129, 66, [v0, v1, v2, v3, v4, v5, .int x, v7, v8], (.int x :: st), w) := (zE_ (i := .iload 6) (by decide +kernel) _ _ _).trans rfl
theorem e129_66 (v0 v1 v2 v3 v4 v5 v6 v7 : Value) (x : Int32) (st : List Value) (w : zH) : zrun none (129, 66, [v0, v1, v2, v3, v4, v5, v6, v7, .int x], st, w) = zrun none (129, 68, [v0, v1, v2, v3, v4, v5, v6, v7, .int x], (.int x :: st), w) := (zE_ (i := .iload 8) (by decide +kernel) _ _ _).trans rfl
theorem e129_68 (v0 v1 v2 v3 v4 v6 v7 v8 : Value) (x : Int32) (st : List Value) (w : zH) : zrun none (129, 68, [v0, v1, v2, v3, v4, .int x, v6, v7, v8], st, w) = zrun none (129, 70, [v0, v1, v2, v3, v4, .int x, v6, v7, v8], (.int x :: st), w) := (zE_ (i := .iload 5) (by decide +kernel) _ _ _).trans rfl
theorem e129_70 (ls : List Value) (a b : Int32) (st : List Value) (w : zH) : zrun none (129, 70, ls, (.int b :: .int a :: st), w) = zrun none (129, 71, ls, (.int (a - b) :: st), w) := (zE_ (i := .isub) (by decide +kernel) _ _ _).trans rfl
theorem e129_71 (ls : List Value) (x j : Int32) (a : Nat) (st : List Value) (w : zH) : zrun none (129, 71, ls, (.int x :: .int j :: .ref a :: st), w) = zgd (zin? w a 100 j) (zrun none (129, 72, ls, st, zas w a j (.int x))) := by
  refine (zE_ (i := .iastore) (by decide +kernel) _ _ _).trans ?_
  by_cases hg : zin? w a 100 j
  · rw [zgd_pos hg]
    exact zq_iast hg
  · rw [zgd_neg hg]
    exact zq_iast_no hg
theorem e129_72 (v0 v1 v2 v3 v5 v6 v7 v8 : Value) (x : Int32) (st : List Value) (w : zH) : zrun none (129, 72, [v0, v1, v2, v3, .int x, v5, v6, v7, v8], st, w) = zrun none (129, 74, [v0, v1, v2, v3, .int x, v5, v6, v7, v8], (.int x :: st), w) := (zE_ (i := .iload 4) (by decide +kernel) _ _ _).trans rfl
theorem e129_74 (v0 v1 v2 v3 v4 v5 v6 v8 : Value) (x : Int32) (st : List Value) (w : zH) : zrun none (129, 74, [v0, v1, v2, v3, v4, v5, v6, .int x, v8], st, w) = zrun none (129, 76, [v0, v1, v2, v3, v4, v5, v6, .int x, v8], (.int x :: st), w) := (zE_ (i := .iload 7) (by decide +kernel) _ _ _).trans rfl
theorem e129_76 (ls : List Value) (a b : Int32) (st : List Value) (w : zH) : zrun none (129, 76, ls, (.int b :: .int a :: st), w) = zrun none (129, 77, ls, (.int (a + b) :: st), w) := (zE_ (i := .iadd) (by decide +kernel) _ _ _).trans rfl
theorem e129_77 (v0 v1 v2 v3 v4 v5 v6 v7 v8 : Value) (x : Int32) (st : List Value) (w : zH) (h : v3.category = 1) : zrun none (129, 77, [v0, v1, v2, v3, v4, v5, v6, v7, v8], (.int x :: st), w) = zrun none (129, 79, [v0, v1, v2, v3, .int x, v5, v6, v7, v8], st, w) := by
  refine (zE_ (i := .istore 4) (by decide +kernel) _ _ _).trans ?_
  have hz : zfree [v0, v1, v2, v3, v4, v5, v6, v7, v8] 4 = true := by show decide (v3.category = 1) = true; exact decide_eq_true h
  show zres (zst zint 4 2 129 77 [v0, v1, v2, v3, v4, v5, v6, v7, v8] (.int x :: st) w) = _
  unfold zst
  dsimp only
  rw [if_pos ⟨rfl, Nat.le_of_ble_eq_true rfl, hz⟩]
  rfl
theorem e129_79 (v0 v1 v2 v3 v4 v6 v7 v8 : Value) (x : Int32) (st : List Value) (w : zH) : zrun none (129, 79, [v0, v1, v2, v3, v4, .int x, v6, v7, v8], st, w) = zrun none (129, 81, [v0, v1, v2, v3, v4, .int x, v6, v7, v8], (.int x :: st), w) := (zE_ (i := .iload 5) (by decide +kernel) _ _ _).trans rfl
theorem e129_81 (v0 v1 v2 v3 v4 v5 v6 v7 : Value) (x : Int32) (st : List Value) (w : zH) : zrun none (129, 81, [v0, v1, v2, v3, v4, v5, v6, v7, .int x], st, w) = zrun none (129, 83, [v0, v1, v2, v3, v4, v5, v6, v7, .int x], (.int x :: st), w) := (zE_ (i := .iload 8) (by decide +kernel) _ _ _).trans rfl
theorem e129_83 (ls : List Value) (a b : Int32) (st : List Value) (w : zH) : zrun none (129, 83, ls, (.int b :: .int a :: st), w) = zrun none (129, 84, ls, (.int (a + b) :: st), w) := (zE_ (i := .iadd) (by decide +kernel) _ _ _).trans rfl
theorem e129_84 (v0 v1 v2 v3 v4 v5 v6 v7 v8 : Value) (x : Int32) (st : List Value) (w : zH) (h : v4.category = 1) : zrun none (129, 84, [v0, v1, v2, v3, v4, v5, v6, v7, v8], (.int x :: st), w) = zrun none (129, 86, [v0, v1, v2, v3, v4, .int x, v6, v7, v8], st, w) := by
  refine (zE_ (i := .istore 5) (by decide +kernel) _ _ _).trans ?_
  have hz : zfree [v0, v1, v2, v3, v4, v5, v6, v7, v8] 5 = true := by show decide (v4.category = 1) = true; exact decide_eq_true h
  show zres (zst zint 5 2 129 84 [v0, v1, v2, v3, v4, v5, v6, v7, v8] (.int x :: st) w) = _
  unfold zst
  dsimp only
  rw [if_pos ⟨rfl, Nat.le_of_ble_eq_true rfl, hz⟩]
  rfl
theorem e129_86 (v0 v1 v2 v3 v4 v5 v7 v8 : Value) (x : Int32) (st : List Value) (w : zH) : zrun none (129, 86, [v0, v1, v2, v3, v4, v5, .int x, v7, v8], st, w) = zrun none (129, 89, [v0, v1, v2, v3, v4, v5, .int (x + 1), v7, v8], st, w) := (zE_ (i := .iinc 6 1) (by decide +kernel) _ _ _).trans rfl
theorem e129_89 (ls st : List Value) (w : zH) : zrun none (129, 89, ls, st, w) = zrun none (129, 9, ls, st, w) := (zE_ (i := .goto (-80)) (by decide +kernel) _ _ _).trans rfl
theorem e129_92 (ls : List Value) (w : zH) : zrun none (129, 92, ls, [], w) = some (none, w) := (zE_ (i := .return_) (by decide +kernel) _ _ _).trans rfl
theorem e130_0 (x : Int32) (st : List Value) (w : zH) : zrun none (130, 0, [.int x], st, w) = zrun none (130, 1, [.int x], (.int x :: st), w) := (zE_ (i := .iload_n 0) (by decide +kernel) _ _ _).trans rfl
theorem e130_1 (x : Int32) (st : List Value) (w : zH) : zrun none (130, 1, [.int x], st, w) = zrun none (130, 2, [.int x], (.int x :: st), w) := (zE_ (i := .iload_n 0) (by decide +kernel) _ _ _).trans rfl
theorem e130_2 (ls : List Value) (a : Int32) (st : List Value) (w : zH) : zrun none (130, 2, ls, (.int a :: st), w) = zrun none (130, 3, ls, (.int (-a) :: st), w) := (zE_ (i := .ineg) (by decide +kernel) _ _ _).trans rfl
theorem e130_3 (ls : List Value) (a b : Int32) (st : List Value) (w : zH) : zrun none (130, 3, ls, (.int b :: .int a :: st), w) = zrun none (130, 4, ls, (.int (a &&& b) :: st), w) := (zE_ (i := .iand) (by decide +kernel) _ _ _).trans rfl
theorem e130_4 (ls st : List Value) (w : zH) : zrun none (130, 4, ls, st, w) = zrun none (130, 5, ls, (.int 1 :: st), w) := (zE_ (i := .iconst 1) (by decide +kernel) _ _ _).trans rfl
theorem e130_5 (ls : List Value) (a b : Int32) (st : List Value) (w : zH) : zrun none (130, 5, ls, (.int b :: .int a :: st), w) = zrun none (130, 6, ls, (.int (a - b) :: st), w) := (zE_ (i := .isub) (by decide +kernel) _ _ _).trans rfl
theorem e130_6 (ls : List Value) (x0 : Int32) (st : List Value) (w : zH) (hr : zcat st ≤ 8) : zrun none (130, 6, ls, (.int x0 :: st), w) = zcl (zrun none (225, 0, [.int x0], [], w)) (fun r => zrun none (130, 9, ls, r.1.toList ++ st, r.2)) := by
  refine (zE_ (i := .invokestatic 225) (by decide +kernel) _ _ _).trans ?_
  show zres (if (99 : Nat) = 99 ∧ 1 ≤ ((.int x0 :: st) : List Value).length then zcall 225 [.int x0] st 130 6 ls w else none) = _
  rw [if_pos ⟨rfl, by simp⟩]
  exact zq_call hr (Nat.le_of_ble_eq_true rfl) rfl rfl
theorem e130_9 (ls st : List Value) (w : zH) : zrun none (130, 9, ls, st, w) = zrun none (130, 11, ls, (.int 11 :: st), w) := (zE_ (i := .bipush 11) (by decide +kernel) _ _ _).trans rfl
theorem e130_11 (ls : List Value) (x0 : Int32) (x1 : Int32) (st : List Value) (w : zH) (hr : zcat st ≤ 8) : zrun none (130, 11, ls, (.int x1 :: .int x0 :: st), w) = zcl (zrun none (229, 0, [.int x0, .int x1], [], w)) (fun r => zrun none (130, 14, ls, r.1.toList ++ st, r.2)) := by
  refine (zE_ (i := .invokestatic 229) (by decide +kernel) _ _ _).trans ?_
  show zres (if (99 : Nat) = 99 ∧ 2 ≤ ((.int x1 :: .int x0 :: st) : List Value).length then zcall 229 [.int x0, .int x1] st 130 11 ls w else none) = _
  rw [if_pos ⟨rfl, by simp⟩]
  exact zq_call hr (Nat.le_of_ble_eq_true rfl) rfl rfl
theorem e130_14 (ls : List Value) (x : Int32) (w : zH) : zrun none (130, 14, ls, [.int x], w) = some (some (.int x), w) := by
  refine (zE_ (i := .ireturn) (by decide +kernel) _ _ _).trans ?_
  show zres (if narrow .int (.int x) = .int x then _ else none) = _
  rw [if_pos (show narrow .int (.int x) = .int x from rfl)]
  rfl
theorem e131_0 (v1 v2 v3 v4 v5 v6 v7 v8 v9 v10 : Value) (x : Nat) (st : List Value) (w : zH) : zrun none (131, 0, [.ref x, v1, v2, v3, v4, v5, v6, v7, v8, v9, v10], st, w) = zrun none (131, 1, [.ref x, v1, v2, v3, v4, v5, v6, v7, v8, v9, v10], (.ref x :: st), w) := (zE_ (i := .aload_n 0) (by decide +kernel) _ _ _).trans rfl
theorem e131_1 (v0 v2 v3 v4 v5 v6 v7 v8 v9 v10 : Value) (x : Nat) (st : List Value) (w : zH) : zrun none (131, 1, [v0, .ref x, v2, v3, v4, v5, v6, v7, v8, v9, v10], st, w) = zrun none (131, 2, [v0, .ref x, v2, v3, v4, v5, v6, v7, v8, v9, v10], (.ref x :: st), w) := (zE_ (i := .aload_n 1) (by decide +kernel) _ _ _).trans rfl
theorem e131_1n (v0 v2 v3 v4 v5 v6 v7 v8 v9 v10 : Value) (st : List Value) (w : zH) : zrun none (131, 1, [v0, .null, v2, v3, v4, v5, v6, v7, v8, v9, v10], st, w) = zrun none (131, 2, [v0, .null, v2, v3, v4, v5, v6, v7, v8, v9, v10], (.null :: st), w) := (zE_ (i := .aload_n 1) (by decide +kernel) _ _ _).trans rfl
theorem e131_2 (v0 v1 v3 v4 v5 v6 v7 v8 v9 v10 : Value) (x : Int32) (st : List Value) (w : zH) : zrun none (131, 2, [v0, v1, .int x, v3, v4, v5, v6, v7, v8, v9, v10], st, w) = zrun none (131, 3, [v0, v1, .int x, v3, v4, v5, v6, v7, v8, v9, v10], (.int x :: st), w) := (zE_ (i := .iload_n 2) (by decide +kernel) _ _ _).trans rfl
theorem e131_3 (v0 v1 v2 v4 v5 v6 v7 v8 v9 v10 : Value) (x : Int32) (st : List Value) (w : zH) : zrun none (131, 3, [v0, v1, v2, .int x, v4, v5, v6, v7, v8, v9, v10], st, w) = zrun none (131, 4, [v0, v1, v2, .int x, v4, v5, v6, v7, v8, v9, v10], (.int x :: st), w) := (zE_ (i := .iload_n 3) (by decide +kernel) _ _ _).trans rfl
theorem e131_4 (ls : List Value) (a : Nat) (x0 : Nat) (x1 : Int32) (x2 : Int32) (st : List Value) (w : zH) (hr : zcat st ≤ 8) : zrun none (131, 4, ls, (.int x2 :: .int x1 :: .ref x0 :: .ref a :: st), w) = zgd (zis w a 11) (zcl (zrun none (129, 0, [.ref a, .ref x0, .int x1, .int x2, zJ, zJ, zJ, zJ, zJ], [], w)) (fun r => zrun none (131, 7, ls, r.1.toList ++ st, r.2))) := by
  refine (zE_ (i := .invokevirtual 129) (by decide +kernel) _ _ _).trans ?_
  show zres (zinv none 129 131 4 ls (.int x2 :: .int x1 :: .ref x0 :: .ref a :: st) w) = _
  unfold zinv
  show zres (if zrc none 129 w (.ref a) = true then zcall 129 [.ref a, .ref x0, .int x1, .int x2] st 131 4 ls w else none) = _
  by_cases hc : zis w a 11
  · rw [if_pos (zrc_is hc (by decide +kernel)), zgd_pos hc]
    exact zq_call hr (Nat.le_of_ble_eq_true rfl) rfl rfl
  · rw [zgd_neg hc, if_neg (fun q => hc (zrc_of q (by decide +kernel)))]
    rfl
theorem e131_7 (ls st : List Value) (w : zH) : zrun none (131, 7, ls, st, w) = zrun none (131, 8, ls, (.int 0 :: st), w) := (zE_ (i := .iconst 0) (by decide +kernel) _ _ _).trans rfl
theorem e131_8 (v0 v1 v2 v3 v4 v5 v6 v7 v8 v9 v10 : Value) (x : Int32) (st : List Value) (w : zH) (h : v4.category = 1) : zrun none (131, 8, [v0, v1, v2, v3, v4, v5, v6, v7, v8, v9, v10], (.int x :: st), w) = zrun none (131, 10, [v0, v1, v2, v3, v4, .int x, v6, v7, v8, v9, v10], st, w) := by
  refine (zE_ (i := .istore 5) (by decide +kernel) _ _ _).trans ?_
  have hz : zfree [v0, v1, v2, v3, v4, v5, v6, v7, v8, v9, v10] 5 = true := by show decide (v4.category = 1) = true; exact decide_eq_true h
  show zres (zst zint 5 2 131 8 [v0, v1, v2, v3, v4, v5, v6, v7, v8, v9, v10] (.int x :: st) w) = _
  unfold zst
  dsimp only
  rw [if_pos ⟨rfl, Nat.le_of_ble_eq_true rfl, hz⟩]
  rfl
theorem e131_10 (ls st : List Value) (w : zH) : zrun none (131, 10, ls, st, w) = zrun none (131, 11, ls, (.int 0 :: st), w) := (zE_ (i := .iconst 0) (by decide +kernel) _ _ _).trans rfl
theorem e131_11 (v0 v1 v2 v3 v4 v5 v6 v7 v8 v9 v10 : Value) (x : Int32) (st : List Value) (w : zH) (h : v5.category = 1) : zrun none (131, 11, [v0, v1, v2, v3, v4, v5, v6, v7, v8, v9, v10], (.int x :: st), w) = zrun none (131, 13, [v0, v1, v2, v3, v4, v5, .int x, v7, v8, v9, v10], st, w) := by
  refine (zE_ (i := .istore 6) (by decide +kernel) _ _ _).trans ?_
  have hz : zfree [v0, v1, v2, v3, v4, v5, v6, v7, v8, v9, v10] 6 = true := by show decide (v5.category = 1) = true; exact decide_eq_true h
  show zres (zst zint 6 2 131 11 [v0, v1, v2, v3, v4, v5, v6, v7, v8, v9, v10] (.int x :: st) w) = _
  unfold zst
  dsimp only
  rw [if_pos ⟨rfl, Nat.le_of_ble_eq_true rfl, hz⟩]
  rfl
theorem e131_13 (ls st : List Value) (w : zH) : zrun none (131, 13, ls, st, w) = zrun none (131, 14, ls, (.int 0 :: st), w) := (zE_ (i := .iconst 0) (by decide +kernel) _ _ _).trans rfl
theorem e131_14 (v0 v1 v2 v3 v4 v5 v6 v7 v8 v9 v10 : Value) (x : Int32) (st : List Value) (w : zH) (h : v6.category = 1) : zrun none (131, 14, [v0, v1, v2, v3, v4, v5, v6, v7, v8, v9, v10], (.int x :: st), w) = zrun none (131, 16, [v0, v1, v2, v3, v4, v5, v6, .int x, v8, v9, v10], st, w) := by
  refine (zE_ (i := .istore 7) (by decide +kernel) _ _ _).trans ?_
  have hz : zfree [v0, v1, v2, v3, v4, v5, v6, v7, v8, v9, v10] 7 = true := by show decide (v6.category = 1) = true; exact decide_eq_true h
  show zres (zst zint 7 2 131 14 [v0, v1, v2, v3, v4, v5, v6, v7, v8, v9, v10] (.int x :: st) w) = _
  unfold zst
  dsimp only
  rw [if_pos ⟨rfl, Nat.le_of_ble_eq_true rfl, hz⟩]
  rfl
theorem e131_16 (ls st : List Value) (w : zH) : zrun none (131, 16, ls, st, w) = zrun none (131, 17, ls, (.int 0 :: st), w) := (zE_ (i := .iconst 0) (by decide +kernel) _ _ _).trans rfl
theorem e131_17 (v0 v1 v2 v3 v4 v5 v6 v7 v8 v9 v10 : Value) (x : Int32) (st : List Value) (w : zH) (h : v7.category = 1) : zrun none (131, 17, [v0, v1, v2, v3, v4, v5, v6, v7, v8, v9, v10], (.int x :: st), w) = zrun none (131, 19, [v0, v1, v2, v3, v4, v5, v6, v7, .int x, v9, v10], st, w) := by
  refine (zE_ (i := .istore 8) (by decide +kernel) _ _ _).trans ?_
  have hz : zfree [v0, v1, v2, v3, v4, v5, v6, v7, v8, v9, v10] 8 = true := by show decide (v7.category = 1) = true; exact decide_eq_true h
  show zres (zst zint 8 2 131 17 [v0, v1, v2, v3, v4, v5, v6, v7, v8, v9, v10] (.int x :: st) w) = _
  unfold zst
  dsimp only
  rw [if_pos ⟨rfl, Nat.le_of_ble_eq_true rfl, hz⟩]
  rfl
theorem e131_19 (ls st : List Value) (w : zH) : zrun none (131, 19, ls, st, w) = zrun none (131, 20, ls, (.int 1 :: st), w) := (zE_ (i := .iconst 1) (by decide +kernel) _ _ _).trans rfl
theorem e131_20 (v0 v1 v2 v3 v4 v5 v6 v7 v8 v9 v10 : Value) (x : Int32) (st : List Value) (w : zH) (h : v8.category = 1) : zrun none (131, 20, [v0, v1, v2, v3, v4, v5, v6, v7, v8, v9, v10], (.int x :: st), w) = zrun none (131, 22, [v0, v1, v2, v3, v4, v5, v6, v7, v8, .int x, v10], st, w) := by
  refine (zE_ (i := .istore 9) (by decide +kernel) _ _ _).trans ?_
  have hz : zfree [v0, v1, v2, v3, v4, v5, v6, v7, v8, v9, v10] 9 = true := by show decide (v8.category = 1) = true; exact decide_eq_true h
  show zres (zst zint 9 2 131 20 [v0, v1, v2, v3, v4, v5, v6, v7, v8, v9, v10] (.int x :: st) w) = _
  unfold zst
  dsimp only
  rw [if_pos ⟨rfl, Nat.le_of_ble_eq_true rfl, hz⟩]
  rfl
theorem e131_22 (v0 v1 v2 v3 v4 v5 v6 v7 v8 v10 : Value) (x : Int32) (st : List Value) (w : zH) : zrun none (131, 22, [v0, v1, v2, v3, v4, v5, v6, v7, v8, .int x, v10], st, w) = zrun none (131, 24, [v0, v1, v2, v3, v4, v5, v6, v7, v8, .int x, v10], (.int x :: st), w) := (zE_ (i := .iload 9) (by decide +kernel) _ _ _).trans rfl
theorem e131_24 (ls st : List Value) (w : zH) : zrun none (131, 24, ls, st, w) = zrun none (131, 25, ls, (.int 1 :: st), w) := (zE_ (i := .iconst 1) (by decide +kernel) _ _ _).trans rfl
theorem e131_25 (v0 v1 v2 v4 v5 v6 v7 v8 v9 v10 : Value) (x : Int32) (st : List Value) (w : zH) : zrun none (131, 25, [v0, v1, v2, .int x, v4, v5, v6, v7, v8, v9, v10], st, w) = zrun none (131, 26, [v0, v1, v2, .int x, v4, v5, v6, v7, v8, v9, v10], (.int x :: st), w) := (zE_ (i := .iload_n 3) (by decide +kernel) _ _ _).trans rfl
theorem e131_26 (ls : List Value) (a b : Int32) (st : List Value) (w : zH) : zrun none (131, 26, ls, (.int b :: .int a :: st), w) = zrun none (131, 27, ls, (.int (a <<< (b &&& 31)) :: st), w) := (zE_ (i := .ishl) (by decide +kernel) _ _ _).trans rfl
theorem e131_27 (ls : List Value) (a b : Int32) (st : List Value) (w : zH) : zrun none (131, 27, ls, (.int b :: .int a :: st), w) = if b ≤ a then zrun none (131, 89, ls, st, w) else zrun none (131, 30, ls, st, w) := (zE_ (i := .if_icmp .ge 62) (by decide +kernel) _ _ _).trans (zq_ic_ge rfl rfl)
theorem e131_30 (v0 v1 v2 v3 v4 v5 v6 v7 v8 v10 : Value) (x : Int32) (st : List Value) (w : zH) : zrun none (131, 30, [v0, v1, v2, v3, v4, v5, v6, v7, v8, .int x, v10], st, w) = zrun none (131, 32, [v0, v1, v2, v3, v4, v5, v6, v7, v8, .int x, v10], (.int x :: st), w) := (zE_ (i := .iload 9) (by decide +kernel) _ _ _).trans rfl
theorem e131_32 (ls : List Value) (x0 : Int32) (st : List Value) (w : zH) (hr : zcat st ≤ 8) : zrun none (131, 32, ls, (.int x0 :: st), w) = zcl (zrun none (130, 0, [.int x0], [], w)) (fun r => zrun none (131, 35, ls, r.1.toList ++ st, r.2)) := by
  refine (zE_ (i := .invokestatic 130) (by decide +kernel) _ _ _).trans ?_
  show zres (if (99 : Nat) = 99 ∧ 1 ≤ ((.int x0 :: st) : List Value).length then zcall 130 [.int x0] st 131 32 ls w else none) = _
  rw [if_pos ⟨rfl, by simp⟩]
  exact zq_call hr (Nat.le_of_ble_eq_true rfl) rfl rfl
theorem e131_35 (v0 v1 v2 v3 v4 v5 v6 v7 v8 v9 v10 : Value) (x : Int32) (st : List Value) (w : zH) (h : v9.category = 1) : zrun none (131, 35, [v0, v1, v2, v3, v4, v5, v6, v7, v8, v9, v10], (.int x :: st), w) = zrun none (131, 37, [v0, v1, v2, v3, v4, v5, v6, v7, v8, v9, .int x], st, w) := by
  refine (zE_ (i := .istore 10) (by decide +kernel) _ _ _).trans ?_
  have hz : zfree [v0, v1, v2, v3, v4, v5, v6, v7, v8, v9, v10] 10 = true := by show decide (v9.category = 1) = true; exact decide_eq_true h
  show zres (zst zint 10 2 131 35 [v0, v1, v2, v3, v4, v5, v6, v7, v8, v9, v10] (.int x :: st) w) = _
  unfold zst
  dsimp only
  rw [if_pos ⟨rfl, Nat.le_of_ble_eq_true rfl, hz⟩]
  rfl
theorem e131_37 (v0 v1 v2 v3 v4 v6 v7 v8 v9 v10 : Value) (x : Int32) (st : List Value) (w : zH) : zrun none (131, 37, [v0, v1, v2, v3, v4, .int x, v6, v7, v8, v9, v10], st, w) = zrun none (131, 39, [v0, v1, v2, v3, v4, .int x, v6, v7, v8, v9, v10], (.int x :: st), w) := (zE_ (i := .iload 5) (by decide +kernel) _ _ _).trans rfl
theorem e131_39 (v1 v2 v3 v4 v5 v6 v7 v8 v9 v10 : Value) (x : Nat) (st : List Value) (w : zH) : zrun none (131, 39, [.ref x, v1, v2, v3, v4, v5, v6, v7, v8, v9, v10], st, w) = zrun none (131, 40, [.ref x, v1, v2, v3, v4, v5, v6, v7, v8, v9, v10], (.ref x :: st), w) := (zE_ (i := .aload_n 0) (by decide +kernel) _ _ _).trans rfl
theorem e131_40 (ls : List Value) (a : Nat) (st : List Value) (w : zH) : zrun none (131, 40, ls, (.ref a :: st), w) = zo (zf w a 1113) (fun x => zrun none (131, 43, ls, (x :: st), w)) := (zE_ (i := .getfield 1113) (by decide +kernel) _ _ _).trans zq_getf
theorem e131_43 (v0 v1 v2 v3 v4 v5 v6 v7 v8 v9 : Value) (x : Int32) (st : List Value) (w : zH) : zrun none (131, 43, [v0, v1, v2, v3, v4, v5, v6, v7, v8, v9, .int x], st, w) = zrun none (131, 45, [v0, v1, v2, v3, v4, v5, v6, v7, v8, v9, .int x], (.int x :: st), w) := (zE_ (i := .iload 10) (by decide +kernel) _ _ _).trans rfl
theorem e131_45 (ls : List Value) (j : Int32) (a : Nat) (st : List Value) (w : zH) : zrun none (131, 45, ls, (.int j :: .ref a :: st), w) = zoi (zai w a 100 j) (fun x => zrun none (131, 46, ls, (.int x :: st), w)) := (zE_ (i := .iaload) (by decide +kernel) _ _ _).trans zq_iald
theorem e131_46 (ls : List Value) (a b : Int32) (st : List Value) (w : zH) : zrun none (131, 46, ls, (.int b :: .int a :: st), w) = zrun none (131, 47, ls, (.int (a + b) :: st), w) := (zE_ (i := .iadd) (by decide +kernel) _ _ _).trans rfl
theorem e131_47 (v0 v1 v2 v3 v4 v5 v6 v7 v8 v9 v10 : Value) (x : Int32) (st : List Value) (w : zH) (h : v4.category = 1) : zrun none (131, 47, [v0, v1, v2, v3, v4, v5, v6, v7, v8, v9, v10], (.int x :: st), w) = zrun none (131, 49, [v0, v1, v2, v3, v4, .int x, v6, v7, v8, v9, v10], st, w) := by
  refine (zE_ (i := .istore 5) (by decide +kernel) _ _ _).trans ?_
  have hz : zfree [v0, v1, v2, v3, v4, v5, v6, v7, v8, v9, v10] 5 = true := by show decide (v4.category = 1) = true; exact decide_eq_true h
  show zres (zst zint 5 2 131 47 [v0, v1, v2, v3, v4, v5, v6, v7, v8, v9, v10] (.int x :: st) w) = _
  unfold zst
  dsimp only
  rw [if_pos ⟨rfl, Nat.le_of_ble_eq_true rfl, hz⟩]
  rfl
theorem e131_49 (v0 v1 v2 v3 v4 v5 v7 v8 v9 v10 : Value) (x : Int32) (st : List Value) (w : zH) : zrun none (131, 49, [v0, v1, v2, v3, v4, v5, .int x, v7, v8, v9, v10], st, w) = zrun none (131, 51, [v0, v1, v2, v3, v4, v5, .int x, v7, v8, v9, v10], (.int x :: st), w) := (zE_ (i := .iload 6) (by decide +kernel) _ _ _).trans rfl
theorem e131_51 (v1 v2 v3 v4 v5 v6 v7 v8 v9 v10 : Value) (x : Nat) (st : List Value) (w : zH) : zrun none (131, 51, [.ref x, v1, v2, v3, v4, v5, v6, v7, v8, v9, v10], st, w) = zrun none (131, 52, [.ref x, v1, v2, v3, v4, v5, v6, v7, v8, v9, v10], (.ref x :: st), w) := (zE_ (i := .aload_n 0) (by decide +kernel) _ _ _).trans rfl
theorem e131_52 (ls : List Value) (a : Nat) (st : List Value) (w : zH) : zrun none (131, 52, ls, (.ref a :: st), w) = zo (zf w a 1114) (fun x => zrun none (131, 55, ls, (x :: st), w)) := (zE_ (i := .getfield 1114) (by decide +kernel) _ _ _).trans zq_getf
theorem e131_55 (v0 v1 v2 v3 v4 v5 v6 v7 v8 v9 : Value) (x : Int32) (st : List Value) (w : zH) : zrun none (131, 55, [v0, v1, v2, v3, v4, v5, v6, v7, v8, v9, .int x], st, w) = zrun none (131, 57, [v0, v1, v2, v3, v4, v5, v6, v7, v8, v9, .int x], (.int x :: st), w) := (zE_ (i := .iload 10) (by decide +kernel) _ _ _).trans rfl
theorem e131_57 (ls : List Value) (j : Int32) (a : Nat) (st : List Value) (w : zH) : zrun none (131, 57, ls, (.int j :: .ref a :: st), w) = zoi (zai w a 100 j) (fun x => zrun none (131, 58, ls, (.int x :: st), w)) := (zE_ (i := .iaload) (by decide +kernel) _ _ _).trans zq_iald
theorem e131_58 (ls : List Value) (a b : Int32) (st : List Value) (w : zH) : zrun none (131, 58, ls, (.int b :: .int a :: st), w) = zrun none (131, 59, ls, (.int (a + b) :: st), w) := (zE_ (i := .iadd) (by decide +kernel) _ _ _).trans rfl
theorem e131_59 (v0 v1 v2 v3 v4 v5 v6 v7 v8 v9 v10 : Value) (x : Int32) (st : List Value) (w : zH) (h : v5.category = 1) : zrun none (131, 59, [v0, v1, v2, v3, v4, v5, v6, v7, v8, v9, v10], (.int x :: st), w) = zrun none (131, 61, [v0, v1, v2, v3, v4, v5, .int x, v7, v8, v9, v10], st, w) := by
  refine (zE_ (i := .istore 6) (by decide +kernel) _ _ _).trans ?_
  have hz : zfree [v0, v1, v2, v3, v4, v5, v6, v7, v8, v9, v10] 6 = true := by show decide (v5.category = 1) = true; exact decide_eq_true h
  show zres (zst zint 6 2 131 59 [v0, v1, v2, v3, v4, v5, v6, v7, v8, v9, v10] (.int x :: st) w) = _
  unfold zst
  dsimp only
  rw [if_pos ⟨rfl, Nat.le_of_ble_eq_true rfl, hz⟩]
  rfl
theorem e131_61 (v0 v1 v2 v3 v4 v6 v7 v8 v9 v10 : Value) (x : Int32) (st : List Value) (w : zH) : zrun none (131, 61, [v0, v1, v2, v3, v4, .int x, v6, v7, v8, v9, v10], st, w) = zrun none (131, 63, [v0, v1, v2, v3, v4, .int x, v6, v7, v8, v9, v10], (.int x :: st), w) := (zE_ (i := .iload 5) (by decide +kernel) _ _ _).trans rfl
theorem e131_63 (v0 v1 v2 v3 v5 v6 v7 v8 v9 v10 : Value) (x : Int32) (st : List Value) (w : zH) : zrun none (131, 63, [v0, v1, v2, v3, .int x, v5, v6, v7, v8, v9, v10], st, w) = zrun none (131, 65, [v0, v1, v2, v3, .int x, v5, v6, v7, v8, v9, v10], (.int x :: st), w) := (zE_ (i := .iload 4) (by decide +kernel) _ _ _).trans rfl
theorem e131_65 (ls : List Value) (a b : Int32) (st : List Value) (w : zH) : zrun none (131, 65, ls, (.int b :: .int a :: st), w) = if b < a then zrun none (131, 83, ls, st, w) else zrun none (131, 68, ls, st, w) := (zE_ (i := .if_icmp .gt 18) (by decide +kernel) _ _ _).trans (zq_ic_gt rfl rfl)
theorem e131_68 (v0 v1 v2 v3 v4 v5 v7 v8 v9 v10 : Value) (x : Int32) (st : List Value) (w : zH) : zrun none (131, 68, [v0, v1, v2, v3, v4, v5, .int x, v7, v8, v9, v10], st, w) = zrun none (131, 70, [v0, v1, v2, v3, v4, v5, .int x, v7, v8, v9, v10], (.int x :: st), w) := (zE_ (i := .iload 6) (by decide +kernel) _ _ _).trans rfl
theorem e131_70 (v0 v1 v2 v3 v4 v5 v6 v7 v9 v10 : Value) (x : Int32) (st : List Value) (w : zH) : zrun none (131, 70, [v0, v1, v2, v3, v4, v5, v6, v7, .int x, v9, v10], st, w) = zrun none (131, 72, [v0, v1, v2, v3, v4, v5, v6, v7, .int x, v9, v10], (.int x :: st), w) := (zE_ (i := .iload 8) (by decide +kernel) _ _ _).trans rfl
theorem e131_72 (ls : List Value) (a b : Int32) (st : List Value) (w : zH) : zrun none (131, 72, ls, (.int b :: .int a :: st), w) = if a ≤ b then zrun none (131, 83, ls, st, w) else zrun none (131, 75, ls, st, w) := (zE_ (i := .if_icmp .le 11) (by decide +kernel) _ _ _).trans (zq_ic_le rfl rfl)
theorem e131_75 (v0 v1 v2 v3 v4 v5 v6 v7 v8 v10 : Value) (x : Int32) (st : List Value) (w : zH) : zrun none (131, 75, [v0, v1, v2, v3, v4, v5, v6, v7, v8, .int x, v10], st, w) = zrun none (131, 77, [v0, v1, v2, v3, v4, v5, v6, v7, v8, .int x, v10], (.int x :: st), w) := (zE_ (i := .iload 9) (by decide +kernel) _ _ _).trans rfl
theorem e131_77 (v0 v1 v2 v3 v4 v5 v6 v7 v8 v9 v10 : Value) (x : Int32) (st : List Value) (w : zH) (h : v6.category = 1) : zrun none (131, 77, [v0, v1, v2, v3, v4, v5, v6, v7, v8, v9, v10], (.int x :: st), w) = zrun none (131, 79, [v0, v1, v2, v3, v4, v5, v6, .int x, v8, v9, v10], st, w) := by
  refine (zE_ (i := .istore 7) (by decide +kernel) _ _ _).trans ?_
  have hz : zfree [v0, v1, v2, v3, v4, v5, v6, v7, v8, v9, v10] 7 = true := by show decide (v6.category = 1) = true; exact decide_eq_true h
  show zres (zst zint 7 2 131 77 [v0, v1, v2, v3, v4, v5, v6, v7, v8, v9, v10] (.int x :: st) w) = _
  unfold zst
  dsimp only
  rw [if_pos ⟨rfl, Nat.le_of_ble_eq_true rfl, hz⟩]
  rfl
theorem e131_79 (v0 v1 v2 v3 v4 v5 v7 v8 v9 v10 : Value) (x : Int32) (st : List Value) (w : zH) : zrun none (131, 79, [v0, v1, v2, v3, v4, v5, .int x, v7, v8, v9, v10], st, w) = zrun none (131, 81, [v0, v1, v2, v3, v4, v5, .int x, v7, v8, v9, v10], (.int x :: st), w) := (zE_ (i := .iload 6) (by decide +kernel) _ _ _).trans rfl
theorem e131_81 (v0 v1 v2 v3 v4 v5 v6 v7 v8 v9 v10 : Value) (x : Int32) (st : List Value) (w : zH) (h : v7.category = 1) : zrun none (131, 81, [v0, v1, v2, v3, v4, v5, v6, v7, v8, v9, v10], (.int x :: st), w) = zrun none (131, 83, [v0, v1, v2, v3, v4, v5, v6, v7, .int x, v9, v10], st, w) := by
  refine (zE_ (i := .istore 8) (by decide +kernel) _ _ _).trans ?_
  have hz : zfree [v0, v1, v2, v3, v4, v5, v6, v7, v8, v9, v10] 8 = true := by show decide (v7.category = 1) = true; exact decide_eq_true h
  show zres (zst zint 8 2 131 81 [v0, v1, v2, v3, v4, v5, v6, v7, v8, v9, v10] (.int x :: st) w) = _
  unfold zst
  dsimp only
  rw [if_pos ⟨rfl, Nat.le_of_ble_eq_true rfl, hz⟩]
  rfl
theorem e131_83 (v0 v1 v2 v3 v4 v5 v6 v7 v8 v10 : Value) (x : Int32) (st : List Value) (w : zH) : zrun none (131, 83, [v0, v1, v2, v3, v4, v5, v6, v7, v8, .int x, v10], st, w) = zrun none (131, 86, [v0, v1, v2, v3, v4, v5, v6, v7, v8, .int (x + 1), v10], st, w) := (zE_ (i := .iinc 9 1) (by decide +kernel) _ _ _).trans rfl
theorem e131_86 (ls st : List Value) (w : zH) : zrun none (131, 86, ls, st, w) = zrun none (131, 22, ls, st, w) := (zE_ (i := .goto (-64)) (by decide +kernel) _ _ _).trans rfl
theorem e131_89 (v0 v1 v2 v3 v4 v5 v6 v8 v9 v10 : Value) (x : Int32) (st : List Value) (w : zH) : zrun none (131, 89, [v0, v1, v2, v3, v4, v5, v6, .int x, v8, v9, v10], st, w) = zrun none (131, 91, [v0, v1, v2, v3, v4, v5, v6, .int x, v8, v9, v10], (.int x :: st), w) := (zE_ (i := .iload 7) (by decide +kernel) _ _ _).trans rfl
theorem e131_91 (ls : List Value) (x : Int32) (w : zH) : zrun none (131, 91, ls, [.int x], w) = some (some (.int x), w) := by
  refine (zE_ (i := .ireturn) (by decide +kernel) _ _ _).trans ?_
  show zres (if narrow .int (.int x) = .int x then _ else none) = _
  rw [if_pos (show narrow .int (.int x) = .int x from rfl)]
  rfl
theorem e132_0 (v1 v2 v3 v4 v5 v6 v7 v8 v9 v10 : Value) (x : Nat) (st : List Value) (w : zH) : zrun none (132, 0, [.ref x, v1, v2, v3, v4, v5, v6, v7, v8, v9, v10], st, w) = zrun none (132, 1, [.ref x, v1, v2, v3, v4, v5, v6, v7, v8, v9, v10], (.ref x :: st), w) := (zE_ (i := .aload_n 0) (by decide +kernel) _ _ _).trans rfl
theorem e132_1 (v0 v2 v3 v4 v5 v6 v7 v8 v9 v10 : Value) (x : Nat) (st : List Value) (w : zH) : zrun none (132, 1, [v0, .ref x, v2, v3, v4, v5, v6, v7, v8, v9, v10], st, w) = zrun none (132, 2, [v0, .ref x, v2, v3, v4, v5, v6, v7, v8, v9, v10], (.ref x :: st), w) := (zE_ (i := .aload_n 1) (by decide +kernel) _ _ _).trans rfl
theorem e132_1n (v0 v2 v3 v4 v5 v6 v7 v8 v9 v10 : Value) (st : List Value) (w : zH) : zrun none (132, 1, [v0, .null, v2, v3, v4, v5, v6, v7, v8, v9, v10], st, w) = zrun none (132, 2, [v0, .null, v2, v3, v4, v5, v6, v7, v8, v9, v10], (.null :: st), w) := (zE_ (i := .aload_n 1) (by decide +kernel) _ _ _).trans rfl
theorem e132_2 (v0 v1 v3 v4 v5 v6 v7 v8 v9 v10 : Value) (x : Int32) (st : List Value) (w : zH) : zrun none (132, 2, [v0, v1, .int x, v3, v4, v5, v6, v7, v8, v9, v10], st, w) = zrun none (132, 3, [v0, v1, .int x, v3, v4, v5, v6, v7, v8, v9, v10], (.int x :: st), w) := (zE_ (i := .iload_n 2) (by decide +kernel) _ _ _).trans rfl
theorem e132_3 (v0 v1 v2 v4 v5 v6 v7 v8 v9 v10 : Value) (x : Int32) (st : List Value) (w : zH) : zrun none (132, 3, [v0, v1, v2, .int x, v4, v5, v6, v7, v8, v9, v10], st, w) = zrun none (132, 4, [v0, v1, v2, .int x, v4, v5, v6, v7, v8, v9, v10], (.int x :: st), w) := (zE_ (i := .iload_n 3) (by decide +kernel) _ _ _).trans rfl
theorem e132_4 (ls : List Value) (a : Nat) (x0 : Nat) (x1 : Int32) (x2 : Int32) (st : List Value) (w : zH) (hr : zcat st ≤ 8) : zrun none (132, 4, ls, (.int x2 :: .int x1 :: .ref x0 :: .ref a :: st), w) = zgd (zis w a 11) (zcl (zrun none (129, 0, [.ref a, .ref x0, .int x1, .int x2, zJ, zJ, zJ, zJ, zJ], [], w)) (fun r => zrun none (132, 7, ls, r.1.toList ++ st, r.2))) := by
  refine (zE_ (i := .invokevirtual 129) (by decide +kernel) _ _ _).trans ?_
  show zres (zinv none 129 132 4 ls (.int x2 :: .int x1 :: .ref x0 :: .ref a :: st) w) = _
  unfold zinv
  show zres (if zrc none 129 w (.ref a) = true then zcall 129 [.ref a, .ref x0, .int x1, .int x2] st 132 4 ls w else none) = _
  by_cases hc : zis w a 11
  · rw [if_pos (zrc_is hc (by decide +kernel)), zgd_pos hc]
    exact zq_call hr (Nat.le_of_ble_eq_true rfl) rfl rfl
  · rw [zgd_neg hc, if_neg (fun q => hc (zrc_of q (by decide +kernel)))]
    rfl
theorem e132_7 (ls st : List Value) (w : zH) : zrun none (132, 7, ls, st, w) = zrun none (132, 8, ls, (.int 0 :: st), w) := (zE_ (i := .iconst 0) (by decide +kernel) _ _ _).trans rfl
theorem e132_8 (v0 v1 v2 v3 v4 v5 v6 v7 v8 v9 v10 : Value) (x : Int32) (st : List Value) (w : zH) (h : v4.category = 1) : zrun none (132, 8, [v0, v1, v2, v3, v4, v5, v6, v7, v8, v9, v10], (.int x :: st), w) = zrun none (132, 10, [v0, v1, v2, v3, v4, .int x, v6, v7, v8, v9, v10], st, w) := by
  refine (zE_ (i := .istore 5) (by decide +kernel) _ _ _).trans ?_
  have hz : zfree [v0, v1, v2, v3, v4, v5, v6, v7, v8, v9, v10] 5 = true := by show decide (v4.category = 1) = true; exact decide_eq_true h
  show zres (zst zint 5 2 132 8 [v0, v1, v2, v3, v4, v5, v6, v7, v8, v9, v10] (.int x :: st) w) = _
  unfold zst
  dsimp only
  rw [if_pos ⟨rfl, Nat.le_of_ble_eq_true rfl, hz⟩]
  rfl
theorem e132_10 (ls st : List Value) (w : zH) : zrun none (132, 10, ls, st, w) = zrun none (132, 11, ls, (.int 0 :: st), w) := (zE_ (i := .iconst 0) (by decide +kernel) _ _ _).trans rfl
theorem e132_11 (v0 v1 v2 v3 v4 v5 v6 v7 v8 v9 v10 : Value) (x : Int32) (st : List Value) (w : zH) (h : v5.category = 1) : zrun none (132, 11, [v0, v1, v2, v3, v4, v5, v6, v7, v8, v9, v10], (.int x :: st), w) = zrun none (132, 13, [v0, v1, v2, v3, v4, v5, .int x, v7, v8, v9, v10], st, w) := by
  refine (zE_ (i := .istore 6) (by decide +kernel) _ _ _).trans ?_
  have hz : zfree [v0, v1, v2, v3, v4, v5, v6, v7, v8, v9, v10] 6 = true := by show decide (v5.category = 1) = true; exact decide_eq_true h
  show zres (zst zint 6 2 132 11 [v0, v1, v2, v3, v4, v5, v6, v7, v8, v9, v10] (.int x :: st) w) = _
  unfold zst
  dsimp only
  rw [if_pos ⟨rfl, Nat.le_of_ble_eq_true rfl, hz⟩]
  rfl
theorem e132_13 (v0 v1 v2 v3 v5 v6 v7 v8 v9 v10 : Value) (x : Int32) (st : List Value) (w : zH) : zrun none (132, 13, [v0, v1, v2, v3, .int x, v5, v6, v7, v8, v9, v10], st, w) = zrun none (132, 15, [v0, v1, v2, v3, .int x, v5, v6, v7, v8, v9, v10], (.int x :: st), w) := (zE_ (i := .iload 4) (by decide +kernel) _ _ _).trans rfl
theorem e132_15 (ls : List Value) (a : Int32) (st : List Value) (w : zH) : zrun none (132, 15, ls, (.int a :: st), w) = if a = 0 then zrun none (132, 18, ls, st, w) else zrun none (132, 22, ls, st, w) := (zE_ (i := .ifCond .ne 7) (by decide +kernel) _ _ _).trans (zq_if_ne rfl rfl)
theorem e132_18 (ls st : List Value) (w : zH) : zrun none (132, 18, ls, st, w) = zrun none (132, 19, ls, (.int 0 :: st), w) := (zE_ (i := .iconst 0) (by decide +kernel) _ _ _).trans rfl
theorem e132_19 (ls st : List Value) (w : zH) : zrun none (132, 19, ls, st, w) = zrun none (132, 25, ls, st, w) := (zE_ (i := .goto 6) (by decide +kernel) _ _ _).trans rfl
theorem e132_22 (ls st : List Value) (w : zH) : zrun none (132, 22, ls, st, w) = zrun none (132, 25, ls, (.int (-1000000) :: st), w) := (zE_ (i := .sipush (-1000000)) (by decide +kernel) _ _ _).trans rfl
theorem e132_25 (v0 v1 v2 v3 v4 v5 v6 v7 v8 v9 v10 : Value) (x : Int32) (st : List Value) (w : zH) (h : v6.category = 1) : zrun none (132, 25, [v0, v1, v2, v3, v4, v5, v6, v7, v8, v9, v10], (.int x :: st), w) = zrun none (132, 27, [v0, v1, v2, v3, v4, v5, v6, .int x, v8, v9, v10], st, w) := by
  refine (zE_ (i := .istore 7) (by decide +kernel) _ _ _).trans ?_
  have hz : zfree [v0, v1, v2, v3, v4, v5, v6, v7, v8, v9, v10] 7 = true := by show decide (v6.category = 1) = true; exact decide_eq_true h
  show zres (zst zint 7 2 132 25 [v0, v1, v2, v3, v4, v5, v6, v7, v8, v9, v10] (.int x :: st) w) = _
  unfold zst
  dsimp only
  rw [if_pos ⟨rfl, Nat.le_of_ble_eq_true rfl, hz⟩]
  rfl
theorem e132_27 (ls st : List Value) (w : zH) : zrun none (132, 27, ls, st, w) = zrun none (132, 28, ls, (.int 0 :: st), w) := (zE_ (i := .iconst 0) (by decide +kernel) _ _ _).trans rfl
theorem e132_28 (v0 v1 v2 v3 v4 v5 v6 v7 v8 v9 v10 : Value) (x : Int32) (st : List Value) (w : zH) (h : v7.category = 1) : zrun none (132, 28, [v0, v1, v2, v3, v4, v5, v6, v7, v8, v9, v10], (.int x :: st), w) = zrun none (132, 30, [v0, v1, v2, v3, v4, v5, v6, v7, .int x, v9, v10], st, w) := by
  refine (zE_ (i := .istore 8) (by decide +kernel) _ _ _).trans ?_
  have hz : zfree [v0, v1, v2, v3, v4, v5, v6, v7, v8, v9, v10] 8 = true := by show decide (v7.category = 1) = true; exact decide_eq_true h
  show zres (zst zint 8 2 132 28 [v0, v1, v2, v3, v4, v5, v6, v7, v8, v9, v10] (.int x :: st) w) = _
  unfold zst
  dsimp only
  rw [if_pos ⟨rfl, Nat.le_of_ble_eq_true rfl, hz⟩]
  rfl
theorem e132_30 (ls st : List Value) (w : zH) : zrun none (132, 30, ls, st, w) = zrun none (132, 31, ls, (.int 1 :: st), w) := (zE_ (i := .iconst 1) (by decide +kernel) _ _ _).trans rfl
theorem e132_31 (v0 v1 v2 v3 v4 v5 v6 v7 v8 v9 v10 : Value) (x : Int32) (st : List Value) (w : zH) (h : v8.category = 1) : zrun none (132, 31, [v0, v1, v2, v3, v4, v5, v6, v7, v8, v9, v10], (.int x :: st), w) = zrun none (132, 33, [v0, v1, v2, v3, v4, v5, v6, v7, v8, .int x, v10], st, w) := by
  refine (zE_ (i := .istore 9) (by decide +kernel) _ _ _).trans ?_
  have hz : zfree [v0, v1, v2, v3, v4, v5, v6, v7, v8, v9, v10] 9 = true := by show decide (v8.category = 1) = true; exact decide_eq_true h
  show zres (zst zint 9 2 132 31 [v0, v1, v2, v3, v4, v5, v6, v7, v8, v9, v10] (.int x :: st) w) = _
  unfold zst
  dsimp only
  rw [if_pos ⟨rfl, Nat.le_of_ble_eq_true rfl, hz⟩]
  rfl
theorem e132_33 (v0 v1 v2 v3 v4 v5 v6 v7 v8 v10 : Value) (x : Int32) (st : List Value) (w : zH) : zrun none (132, 33, [v0, v1, v2, v3, v4, v5, v6, v7, v8, .int x, v10], st, w) = zrun none (132, 35, [v0, v1, v2, v3, v4, v5, v6, v7, v8, .int x, v10], (.int x :: st), w) := (zE_ (i := .iload 9) (by decide +kernel) _ _ _).trans rfl
theorem e132_35 (ls st : List Value) (w : zH) : zrun none (132, 35, ls, st, w) = zrun none (132, 36, ls, (.int 1 :: st), w) := (zE_ (i := .iconst 1) (by decide +kernel) _ _ _).trans rfl
theorem e132_36 (v0 v1 v2 v4 v5 v6 v7 v8 v9 v10 : Value) (x : Int32) (st : List Value) (w : zH) : zrun none (132, 36, [v0, v1, v2, .int x, v4, v5, v6, v7, v8, v9, v10], st, w) = zrun none (132, 37, [v0, v1, v2, .int x, v4, v5, v6, v7, v8, v9, v10], (.int x :: st), w) := (zE_ (i := .iload_n 3) (by decide +kernel) _ _ _).trans rfl
theorem e132_37 (ls : List Value) (a b : Int32) (st : List Value) (w : zH) : zrun none (132, 37, ls, (.int b :: .int a :: st), w) = zrun none (132, 38, ls, (.int (a <<< (b &&& 31)) :: st), w) := (zE_ (i := .ishl) (by decide +kernel) _ _ _).trans rfl
theorem e132_38 (ls : List Value) (a b : Int32) (st : List Value) (w : zH) : zrun none (132, 38, ls, (.int b :: .int a :: st), w) = if b ≤ a then zrun none (132, 108, ls, st, w) else zrun none (132, 41, ls, st, w) := (zE_ (i := .if_icmp .ge 70) (by decide +kernel) _ _ _).trans (zq_ic_ge rfl rfl)
theorem e132_41 (v0 v1 v2 v3 v4 v5 v6 v7 v8 v10 : Value) (x : Int32) (st : List Value) (w : zH) : zrun none (132, 41, [v0, v1, v2, v3, v4, v5, v6, v7, v8, .int x, v10], st, w) = zrun none (132, 43, [v0, v1, v2, v3, v4, v5, v6, v7, v8, .int x, v10], (.int x :: st), w) := (zE_ (i := .iload 9) (by decide +kernel) _ _ _).trans rfl
theorem e132_43 (ls : List Value) (x0 : Int32) (st : List Value) (w : zH) (hr : zcat st ≤ 8) : zrun none (132, 43, ls, (.int x0 :: st), w) = zcl (zrun none (130, 0, [.int x0], [], w)) (fun r => zrun none (132, 46, ls, r.1.toList ++ st, r.2)) := by
  refine (zE_ (i := .invokestatic 130) (by decide +kernel) _ _ _).trans ?_
  show zres (if (99 : Nat) = 99 ∧ 1 ≤ ((.int x0 :: st) : List Value).length then zcall 130 [.int x0] st 132 43 ls w else none) = _
  rw [if_pos ⟨rfl, by simp⟩]
  exact zq_call hr (Nat.le_of_ble_eq_true rfl) rfl rfl
theorem e132_46 (v0 v1 v2 v3 v4 v5 v6 v7 v8 v9 v10 : Value) (x : Int32) (st : List Value) (w : zH) (h : v9.category = 1) : zrun none (132, 46, [v0, v1, v2, v3, v4, v5, v6, v7, v8, v9, v10], (.int x :: st), w) = zrun none (132, 48, [v0, v1, v2, v3, v4, v5, v6, v7, v8, v9, .int x], st, w) := by
  refine (zE_ (i := .istore 10) (by decide +kernel) _ _ _).trans ?_
  have hz : zfree [v0, v1, v2, v3, v4, v5, v6, v7, v8, v9, v10] 10 = true := by show decide (v9.category = 1) = true; exact decide_eq_true h
  show zres (zst zint 10 2 132 46 [v0, v1, v2, v3, v4, v5, v6, v7, v8, v9, v10] (.int x :: st) w) = _
  unfold zst
  dsimp only
  rw [if_pos ⟨rfl, Nat.le_of_ble_eq_true rfl, hz⟩]
  rfl
theorem e132_48 (v0 v1 v2 v3 v4 v6 v7 v8 v9 v10 : Value) (x : Int32) (st : List Value) (w : zH) : zrun none (132, 48, [v0, v1, v2, v3, v4, .int x, v6, v7, v8, v9, v10], st, w) = zrun none (132, 50, [v0, v1, v2, v3, v4, .int x, v6, v7, v8, v9, v10], (.int x :: st), w) := (zE_ (i := .iload 5) (by decide +kernel) _ _ _).trans rfl
theorem e132_50 (v1 v2 v3 v4 v5 v6 v7 v8 v9 v10 : Value) (x : Nat) (st : List Value) (w : zH) : zrun none (132, 50, [.ref x, v1, v2, v3, v4, v5, v6, v7, v8, v9, v10], st, w) = zrun none (132, 51, [.ref x, v1, v2, v3, v4, v5, v6, v7, v8, v9, v10], (.ref x :: st), w) := (zE_ (i := .aload_n 0) (by decide +kernel) _ _ _).trans rfl
theorem e132_51 (ls : List Value) (a : Nat) (st : List Value) (w : zH) : zrun none (132, 51, ls, (.ref a :: st), w) = zo (zf w a 1113) (fun x => zrun none (132, 54, ls, (x :: st), w)) := (zE_ (i := .getfield 1113) (by decide +kernel) _ _ _).trans zq_getf
theorem e132_54 (v0 v1 v2 v3 v4 v5 v6 v7 v8 v9 : Value) (x : Int32) (st : List Value) (w : zH) : zrun none (132, 54, [v0, v1, v2, v3, v4, v5, v6, v7, v8, v9, .int x], st, w) = zrun none (132, 56, [v0, v1, v2, v3, v4, v5, v6, v7, v8, v9, .int x], (.int x :: st), w) := (zE_ (i := .iload 10) (by decide +kernel) _ _ _).trans rfl
theorem e132_56 (ls : List Value) (j : Int32) (a : Nat) (st : List Value) (w : zH) : zrun none (132, 56, ls, (.int j :: .ref a :: st), w) = zoi (zai w a 100 j) (fun x => zrun none (132, 57, ls, (.int x :: st), w)) := (zE_ (i := .iaload) (by decide +kernel) _ _ _).trans zq_iald
theorem e132_57 (ls : List Value) (a b : Int32) (st : List Value) (w : zH) : zrun none (132, 57, ls, (.int b :: .int a :: st), w) = zrun none (132, 58, ls, (.int (a + b) :: st), w) := (zE_ (i := .iadd) (by decide +kernel) _ _ _).trans rfl
theorem e132_58 (v0 v1 v2 v3 v4 v5 v6 v7 v8 v9 v10 : Value) (x : Int32) (st : List Value) (w : zH) (h : v4.category = 1) : zrun none (132, 58, [v0, v1, v2, v3, v4, v5, v6, v7, v8, v9, v10], (.int x :: st), w) = zrun none (132, 60, [v0, v1, v2, v3, v4, .int x, v6, v7, v8, v9, v10], st, w) := by
  refine (zE_ (i := .istore 5) (by decide +kernel) _ _ _).trans ?_
  have hz : zfree [v0, v1, v2, v3, v4, v5, v6, v7, v8, v9, v10] 5 = true := by show decide (v4.category = 1) = true; exact decide_eq_true h
  show zres (zst zint 5 2 132 58 [v0, v1, v2, v3, v4, v5, v6, v7, v8, v9, v10] (.int x :: st) w) = _
  unfold zst
  dsimp only
  rw [if_pos ⟨rfl, Nat.le_of_ble_eq_true rfl, hz⟩]
  rfl
theorem e132_60 (v0 v1 v2 v3 v4 v5 v7 v8 v9 v10 : Value) (x : Int32) (st : List Value) (w : zH) : zrun none (132, 60, [v0, v1, v2, v3, v4, v5, .int x, v7, v8, v9, v10], st, w) = zrun none (132, 62, [v0, v1, v2, v3, v4, v5, .int x, v7, v8, v9, v10], (.int x :: st), w) := (zE_ (i := .iload 6) (by decide +kernel) _ _ _).trans rfl
theorem e132_62 (v1 v2 v3 v4 v5 v6 v7 v8 v9 v10 : Value) (x : Nat) (st : List Value) (w : zH) : zrun none (132, 62, [.ref x, v1, v2, v3, v4, v5, v6, v7, v8, v9, v10], st, w) = zrun none (132, 63, [.ref x, v1, v2, v3, v4, v5, v6, v7, v8, v9, v10], (.ref x :: st), w) := (zE_ (i := .aload_n 0) (by decide +kernel) _ _ _).trans rfl
theorem e132_63 (ls : List Value) (a : Nat) (st : List Value) (w : zH) : zrun none (132, 63, ls, (.ref a :: st), w) = zo (zf w a 1114) (fun x => zrun none (132, 66, ls, (x :: st), w)) := (zE_ (i := .getfield 1114) (by decide +kernel) _ _ _).trans zq_getf
theorem e132_66 (v0 v1 v2 v3 v4 v5 v6 v7 v8 v9 : Value) (x : Int32) (st : List Value) (w : zH) : zrun none (132, 66, [v0, v1, v2, v3, v4, v5, v6, v7, v8, v9, .int x], st, w) = zrun none (132, 68, [v0, v1, v2, v3, v4, v5, v6, v7, v8, v9, .int x], (.int x :: st), w) := (zE_ (i := .iload 10) (by decide +kernel) _ _ _).trans rfl
theorem e132_68 (ls : List Value) (j : Int32) (a : Nat) (st : List Value) (w : zH) : zrun none (132, 68, ls, (.int j :: .ref a :: st), w) = zoi (zai w a 100 j) (fun x => zrun none (132, 69, ls, (.int x :: st), w)) := (zE_ (i := .iaload) (by decide +kernel) _ _ _).trans zq_iald
theorem e132_69 (ls : List Value) (a b : Int32) (st : List Value) (w : zH) : zrun none (132, 69, ls, (.int b :: .int a :: st), w) = zrun none (132, 70, ls, (.int (a + b) :: st), w) := (zE_ (i := .iadd) (by decide +kernel) _ _ _).trans rfl
theorem e132_70 (v0 v1 v2 v3 v4 v5 v6 v7 v8 v9 v10 : Value) (x : Int32) (st : List Value) (w : zH) (h : v5.category = 1) : zrun none (132, 70, [v0, v1, v2, v3, v4, v5, v6, v7, v8, v9, v10], (.int x :: st), w) = zrun none (132, 72, [v0, v1, v2, v3, v4, v5, .int x, v7, v8, v9, v10], st, w) := by
  refine (zE_ (i := .istore 6) (by decide +kernel) _ _ _).trans ?_
  have hz : zfree [v0, v1, v2, v3, v4, v5, v6, v7, v8, v9, v10] 6 = true := by show decide (v5.category = 1) = true; exact decide_eq_true h
  show zres (zst zint 6 2 132 70 [v0, v1, v2, v3, v4, v5, v6, v7, v8, v9, v10] (.int x :: st) w) = _
  unfold zst
  dsimp only
  rw [if_pos ⟨rfl, Nat.le_of_ble_eq_true rfl, hz⟩]
  rfl
theorem e132_72 (v0 v1 v2 v3 v4 v5 v7 v8 v9 v10 : Value) (x : Int32) (st : List Value) (w : zH) : zrun none (132, 72, [v0, v1, v2, v3, v4, v5, .int x, v7, v8, v9, v10], st, w) = zrun none (132, 74, [v0, v1, v2, v3, v4, v5, .int x, v7, v8, v9, v10], (.int x :: st), w) := (zE_ (i := .iload 6) (by decide +kernel) _ _ _).trans rfl
theorem e132_74 (v0 v1 v2 v3 v5 v6 v7 v8 v9 v10 : Value) (x : Int32) (st : List Value) (w : zH) : zrun none (132, 74, [v0, v1, v2, v3, .int x, v5, v6, v7, v8, v9, v10], st, w) = zrun none (132, 76, [v0, v1, v2, v3, .int x, v5, v6, v7, v8, v9, v10], (.int x :: st), w) := (zE_ (i := .iload 4) (by decide +kernel) _ _ _).trans rfl
theorem e132_76 (ls : List Value) (a b : Int32) (st : List Value) (w : zH) : zrun none (132, 76, ls, (.int b :: .int a :: st), w) = if a < b then zrun none (132, 102, ls, st, w) else zrun none (132, 79, ls, st, w) := (zE_ (i := .if_icmp .lt 26) (by decide +kernel) _ _ _).trans (zq_ic_lt rfl rfl)
theorem e132_79 (v0 v1 v2 v3 v4 v5 v6 v8 v9 v10 : Value) (x : Int32) (st : List Value) (w : zH) : zrun none (132, 79, [v0, v1, v2, v3, v4, v5, v6, .int x, v8, v9, v10], st, w) = zrun none (132, 81, [v0, v1, v2, v3, v4, v5, v6, .int x, v8, v9, v10], (.int x :: st), w) := (zE_ (i := .iload 7) (by decide +kernel) _ _ _).trans rfl
theorem e132_81 (ls st : List Value) (w : zH) : zrun none (132, 81, ls, st, w) = zrun none (132, 84, ls, (.int (-1000000) :: st), w) := (zE_ (i := .sipush (-1000000)) (by decide +kernel) _ _ _).trans rfl
theorem e132_84 (ls : List Value) (a b : Int32) (st : List Value) (w : zH) : zrun none (132, 84, ls, (.int b :: .int a :: st), w) = if a = b then zrun none (132, 94, ls, st, w) else zrun none (132, 87, ls, st, w) := (zE_ (i := .if_icmp .eq 10) (by decide +kernel) _ _ _).trans (zq_ic_eq rfl rfl)
theorem e132_87 (v0 v1 v2 v3 v4 v6 v7 v8 v9 v10 : Value) (x : Int32) (st : List Value) (w : zH) : zrun none (132, 87, [v0, v1, v2, v3, v4, .int x, v6, v7, v8, v9, v10], st, w) = zrun none (132, 89, [v0, v1, v2, v3, v4, .int x, v6, v7, v8, v9, v10], (.int x :: st), w) := (zE_ (i := .iload 5) (by decide +kernel) _ _ _).trans rfl
theorem e132_89 (v0 v1 v2 v3 v4 v5 v6 v7 v9 v10 : Value) (x : Int32) (st : List Value) (w : zH) : zrun none (132, 89, [v0, v1, v2, v3, v4, v5, v6, v7, .int x, v9, v10], st, w) = zrun none (132, 91, [v0, v1, v2, v3, v4, v5, v6, v7, .int x, v9, v10], (.int x :: st), w) := (zE_ (i := .iload 8) (by decide +kernel) _ _ _).trans rfl
theorem e132_91 (ls : List Value) (a b : Int32) (st : List Value) (w : zH) : zrun none (132, 91, ls, (.int b :: .int a :: st), w) = if b ≤ a then zrun none (132, 102, ls, st, w) else zrun none (132, 94, ls, st, w) := (zE_ (i := .if_icmp .ge 11) (by decide +kernel) _ _ _).trans (zq_ic_ge rfl rfl)
theorem e132_94 (v0 v1 v2 v3 v4 v5 v6 v7 v8 v10 : Value) (x : Int32) (st : List Value) (w : zH) : zrun none (132, 94, [v0, v1, v2, v3, v4, v5, v6, v7, v8, .int x, v10], st, w) = zrun none (132, 96, [v0, v1, v2, v3, v4, v5, v6, v7, v8, .int x, v10], (.int x :: st), w) := (zE_ (i := .iload 9) (by decide +kernel) _ _ _).trans rfl
theorem e132_96 (v0 v1 v2 v3 v4 v5 v6 v7 v8 v9 v10 : Value) (x : Int32) (st : List Value) (w : zH) (h : v6.category = 1) : zrun none (132, 96, [v0, v1, v2, v3, v4, v5, v6, v7, v8, v9, v10], (.int x :: st), w) = zrun none (132, 98, [v0, v1, v2, v3, v4, v5, v6, .int x, v8, v9, v10], st, w) := by
  refine (zE_ (i := .istore 7) (by decide +kernel) _ _ _).trans ?_
  have hz : zfree [v0, v1, v2, v3, v4, v5, v6, v7, v8, v9, v10] 7 = true := by show decide (v6.category = 1) = true; exact decide_eq_true h
  show zres (zst zint 7 2 132 96 [v0, v1, v2, v3, v4, v5, v6, v7, v8, v9, v10] (.int x :: st) w) = _
  unfold zst
  dsimp only
  rw [if_pos ⟨rfl, Nat.le_of_ble_eq_true rfl, hz⟩]
  rfl
theorem e132_98 (v0 v1 v2 v3 v4 v6 v7 v8 v9 v10 : Value) (x : Int32) (st : List Value) (w : zH) : zrun none (132, 98, [v0, v1, v2, v3, v4, .int x, v6, v7, v8, v9, v10], st, w) = zrun none (132, 100, [v0, v1, v2, v3, v4, .int x, v6, v7, v8, v9, v10], (.int x :: st), w) := (zE_ (i := .iload 5) (by decide +kernel) _ _ _).trans rfl
theorem e132_100 (v0 v1 v2 v3 v4 v5 v6 v7 v8 v9 v10 : Value) (x : Int32) (st : List Value) (w : zH) (h : v7.category = 1) : zrun none (132, 100, [v0, v1, v2, v3, v4, v5, v6, v7, v8, v9, v10], (.int x :: st), w) = zrun none (132, 102, [v0, v1, v2, v3, v4, v5, v6, v7, .int x, v9, v10], st, w) := by
  refine (zE_ (i := .istore 8) (by decide +kernel) _ _ _).trans ?_
  have hz : zfree [v0, v1, v2, v3, v4, v5, v6, v7, v8, v9, v10] 8 = true := by show decide (v7.category = 1) = true; exact decide_eq_true h
  show zres (zst zint 8 2 132 100 [v0, v1, v2, v3, v4, v5, v6, v7, v8, v9, v10] (.int x :: st) w) = _
  unfold zst
  dsimp only
  rw [if_pos ⟨rfl, Nat.le_of_ble_eq_true rfl, hz⟩]
  rfl
theorem e132_102 (v0 v1 v2 v3 v4 v5 v6 v7 v8 v10 : Value) (x : Int32) (st : List Value) (w : zH) : zrun none (132, 102, [v0, v1, v2, v3, v4, v5, v6, v7, v8, .int x, v10], st, w) = zrun none (132, 105, [v0, v1, v2, v3, v4, v5, v6, v7, v8, .int (x + 1), v10], st, w) := (zE_ (i := .iinc 9 1) (by decide +kernel) _ _ _).trans rfl
theorem e132_105 (ls st : List Value) (w : zH) : zrun none (132, 105, ls, st, w) = zrun none (132, 33, ls, st, w) := (zE_ (i := .goto (-72)) (by decide +kernel) _ _ _).trans rfl
theorem e132_108 (v0 v1 v2 v3 v4 v5 v6 v8 v9 v10 : Value) (x : Int32) (st : List Value) (w : zH) : zrun none (132, 108, [v0, v1, v2, v3, v4, v5, v6, .int x, v8, v9, v10], st, w) = zrun none (132, 110, [v0, v1, v2, v3, v4, v5, v6, .int x, v8, v9, v10], (.int x :: st), w) := (zE_ (i := .iload 7) (by decide +kernel) _ _ _).trans rfl
theorem e132_110 (ls : List Value) (x : Int32) (w : zH) : zrun none (132, 110, ls, [.int x], w) = some (some (.int x), w) := by
  refine (zE_ (i := .ireturn) (by decide +kernel) _ _ _).trans ?_
  show zres (if narrow .int (.int x) = .int x then _ else none) = _
  rw [if_pos (show narrow .int (.int x) = .int x from rfl)]
  rfl
theorem e133_0 (v0 v1 v2 v4 v5 v6 v7 v8 v9 v10 : Value) (x : Int32) (st : List Value) (w : zH) : zrun none (133, 0, [v0, v1, v2, .int x, v4, v5, v6, v7, v8, v9, v10], st, w) = zrun none (133, 1, [v0, v1, v2, .int x, v4, v5, v6, v7, v8, v9, v10], (.int x :: st), w) := (zE_ (i := .iload_n 3) (by decide +kernel) _ _ _).trans rfl
theorem e133_1 (v0 v2 v3 v4 v5 v6 v7 v8 v9 v10 : Value) (x : Int32) (st : List Value) (w : zH) : zrun none (133, 1, [v0, .int x, v2, v3, v4, v5, v6, v7, v8, v9, v10], st, w) = zrun none (133, 2, [v0, .int x, v2, v3, v4, v5, v6, v7, v8, v9, v10], (.int x :: st), w) := (zE_ (i := .iload_n 1) (by decide +kernel) _ _ _).trans rfl
theorem e133_2 (ls : List Value) (a b : Int32) (st : List Value) (w : zH) : zrun none (133, 2, ls, (.int b :: .int a :: st), w) = zrun none (133, 3, ls, (.int (a - b) :: st), w) := (zE_ (i := .isub) (by decide +kernel) _ _ _).trans rfl
theorem e133_3 (ls : List Value) (x0 : Int32) (st : List Value) (w : zH) (hr : zcat st ≤ 8) : zrun none (133, 3, ls, (.int x0 :: st), w) = zcl (zrun none (227, 0, [.int x0], [], w)) (fun r => zrun none (133, 6, ls, r.1.toList ++ st, r.2)) := by
  refine (zE_ (i := .invokestatic 227) (by decide +kernel) _ _ _).trans ?_
  show zres (if (99 : Nat) = 99 ∧ 1 ≤ ((.int x0 :: st) : List Value).length then zcall 227 [.int x0] st 133 3 ls w else none) = _
  rw [if_pos ⟨rfl, by simp⟩]
  exact zq_call hr (Nat.le_of_ble_eq_true rfl) rfl rfl
theorem e133_6 (v0 v1 v2 v3 v5 v6 v7 v8 v9 v10 : Value) (x : Int32) (st : List Value) (w : zH) : zrun none (133, 6, [v0, v1, v2, v3, .int x, v5, v6, v7, v8, v9, v10], st, w) = zrun none (133, 8, [v0, v1, v2, v3, .int x, v5, v6, v7, v8, v9, v10], (.int x :: st), w) := (zE_ (i := .iload 4) (by decide +kernel) _ _ _).trans rfl
theorem e133_8 (v0 v1 v3 v4 v5 v6 v7 v8 v9 v10 : Value) (x : Int32) (st : List Value) (w : zH) : zrun none (133, 8, [v0, v1, .int x, v3, v4, v5, v6, v7, v8, v9, v10], st, w) = zrun none (133, 9, [v0, v1, .int x, v3, v4, v5, v6, v7, v8, v9, v10], (.int x :: st), w) := (zE_ (i := .iload_n 2) (by decide +kernel) _ _ _).trans rfl
theorem e133_9 (ls : List Value) (a b : Int32) (st : List Value) (w : zH) : zrun none (133, 9, ls, (.int b :: .int a :: st), w) = zrun none (133, 10, ls, (.int (a - b) :: st), w) := (zE_ (i := .isub) (by decide +kernel) _ _ _).trans rfl
theorem e133_10 (ls : List Value) (x0 : Int32) (st : List Value) (w : zH) (hr : zcat st ≤ 8) : zrun none (133, 10, ls, (.int x0 :: st), w) = zcl (zrun none (227, 0, [.int x0], [], w)) (fun r => zrun none (133, 13, ls, r.1.toList ++ st, r.2)) := by
  refine (zE_ (i := .invokestatic 227) (by decide +kernel) _ _ _).trans ?_
  show zres (if (99 : Nat) = 99 ∧ 1 ≤ ((.int x0 :: st) : List Value).length then zcall 227 [.int x0] st 133 10 ls w else none) = _
  rw [if_pos ⟨rfl, by simp⟩]
  exact zq_call hr (Nat.le_of_ble_eq_true rfl) rfl rfl
theorem e133_13 (ls : List Value) (x0 : Int32) (x1 : Int32) (st : List Value) (w : zH) (hr : zcat st ≤ 8) : zrun none (133, 13, ls, (.int x1 :: .int x0 :: st), w) = zcl (zrun none (228, 0, [.int x0, .int x1], [], w)) (fun r => zrun none (133, 16, ls, r.1.toList ++ st, r.2)) := by
  refine (zE_ (i := .invokestatic 228) (by decide +kernel) _ _ _).trans ?_
  show zres (if (99 : Nat) = 99 ∧ 2 ≤ ((.int x1 :: .int x0 :: st) : List Value).length then zcall 228 [.int x0, .int x1] st 133 13 ls w else none) = _
  rw [if_pos ⟨rfl, by simp⟩]
  exact zq_call hr (Nat.le_of_ble_eq_true rfl) rfl rfl
theorem e133_16 (v0 v1 v2 v3 v4 v5 v6 v7 v8 v9 v10 : Value) (x : Int32) (st : List Value) (w : zH) (h : v4.category = 1) : zrun none (133, 16, [v0, v1, v2, v3, v4, v5, v6, v7, v8, v9, v10], (.int x :: st), w) = zrun none (133, 18, [v0, v1, v2, v3, v4, .int x, v6, v7, v8, v9, v10], st, w) := by
  refine (zE_ (i := .istore 5) (by decide +kernel) _ _ _).trans ?_
  have hz : zfree [v0, v1, v2, v3, v4, v5, v6, v7, v8, v9, v10] 5 = true := by show decide (v4.category = 1) = true; exact decide_eq_true h
  show zres (zst zint 5 2 133 16 [v0, v1, v2, v3, v4, v5, v6, v7, v8, v9, v10] (.int x :: st) w) = _
  unfold zst
  dsimp only
  rw [if_pos ⟨rfl, Nat.le_of_ble_eq_true rfl, hz⟩]
  rfl
theorem e133_18 (v1 v2 v3 v4 v5 v6 v7 v8 v9 v10 : Value) (x : Nat) (st : List Value) (w : zH) : zrun none (133, 18, [.ref x, v1, v2, v3, v4, v5, v6, v7, v8, v9, v10], st, w) = zrun none (133, 19, [.ref x, v1, v2, v3, v4, v5, v6, v7, v8, v9, v10], (.ref x :: st), w) := (zE_ (i := .aload_n 0) (by decide +kernel) _ _ _).trans rfl
theorem e133_18n (v1 v2 v3 v4 v5 v6 v7 v8 v9 v10 : Value) (st : List Value) (w : zH) : zrun none (133, 18, [.null, v1, v2, v3, v4, v5, v6, v7, v8, v9, v10], st, w) = zrun none (133, 19, [.null, v1, v2, v3, v4, v5, v6, v7, v8, v9, v10], (.null :: st), w) := (zE_ (i := .aload_n 0) (by decide +kernel) _ _ _).trans rfl
theorem e133_19 (v0 v2 v3 v4 v5 v6 v7 v8 v9 v10 : Value) (x : Int32) (st : List Value) (w : zH) : zrun none (133, 19, [v0, .int x, v2, v3, v4, v5, v6, v7, v8, v9, v10], st, w) = zrun none (133, 20, [v0, .int x, v2, v3, v4, v5, v6, v7, v8, v9, v10], (.int x :: st), w) := (zE_ (i := .iload_n 1) (by decide +kernel) _ _ _).trans rfl
theorem e133_20 (v0 v1 v3 v4 v5 v6 v7 v8 v9 v10 : Value) (x : Int32) (st : List Value) (w : zH) : zrun none (133, 20, [v0, v1, .int x, v3, v4, v5, v6, v7, v8, v9, v10], st, w) = zrun none (133, 21, [v0, v1, .int x, v3, v4, v5, v6, v7, v8, v9, v10], (.int x :: st), w) := (zE_ (i := .iload_n 2) (by decide +kernel) _ _ _).trans rfl
theorem e133_21 (ls : List Value) (a : Nat) (x0 : Int32) (x1 : Int32) (st : List Value) (w : zH) (hr : zcat st ≤ 8) : zrun none (133, 21, ls, (.int x1 :: .int x0 :: .ref a :: st), w) = zgd (zis w a 8) (zcl (zrun none (43, 0, [.ref a, .int x0, .int x1], [], w)) (fun r => zrun none (133, 24, ls, r.1.toList ++ st, r.2))) := by
  refine (zE_ (i := .invokevirtual 43) (by decide +kernel) _ _ _).trans ?_
  show zres (zinv none 43 133 21 ls (.int x1 :: .int x0 :: .ref a :: st) w) = _
  unfold zinv
  show zres (if zrc none 43 w (.ref a) = true then zcall 43 [.ref a, .int x0, .int x1] st 133 21 ls w else none) = _
  by_cases hc : zis w a 8
  · rw [if_pos (zrc_is hc (by decide +kernel)), zgd_pos hc]
    exact zq_call hr (Nat.le_of_ble_eq_true rfl) rfl rfl
  · rw [zgd_neg hc, if_neg (fun q => hc (zrc_of q (by decide +kernel)))]
    rfl
theorem e133_24 (ls st : List Value) (w : zH) : zrun none (133, 24, ls, st, w) = zrun none (133, 25, ls, (.int 2 :: st), w) := (zE_ (i := .iconst 2) (by decide +kernel) _ _ _).trans rfl
theorem e133_25 (ls : List Value) (a b : Int32) (st : List Value) (w : zH) : zrun none (133, 25, ls, (.int b :: .int a :: st), w) = zrun none (133, 26, ls, (.int (a + b) :: st), w) := (zE_ (i := .iadd) (by decide +kernel) _ _ _).trans rfl
theorem e133_26 (v0 v1 v2 v3 v4 v5 v6 v7 v8 v9 v10 : Value) (x : Int32) (st : List Value) (w : zH) (h : v5.category = 1) : zrun none (133, 26, [v0, v1, v2, v3, v4, v5, v6, v7, v8, v9, v10], (.int x :: st), w) = zrun none (133, 28, [v0, v1, v2, v3, v4, v5, .int x, v7, v8, v9, v10], st, w) := by
  refine (zE_ (i := .istore 6) (by decide +kernel) _ _ _).trans ?_
  have hz : zfree [v0, v1, v2, v3, v4, v5, v6, v7, v8, v9, v10] 6 = true := by show decide (v5.category = 1) = true; exact decide_eq_true h
  show zres (zst zint 6 2 133 26 [v0, v1, v2, v3, v4, v5, v6, v7, v8, v9, v10] (.int x :: st) w) = _
  unfold zst
  dsimp only
  rw [if_pos ⟨rfl, Nat.le_of_ble_eq_true rfl, hz⟩]
  rfl
theorem e133_28 (v1 v2 v3 v4 v5 v6 v7 v8 v9 v10 : Value) (x : Nat) (st : List Value) (w : zH) : zrun none (133, 28, [.ref x, v1, v2, v3, v4, v5, v6, v7, v8, v9, v10], st, w) = zrun none (133, 29, [.ref x, v1, v2, v3, v4, v5, v6, v7, v8, v9, v10], (.ref x :: st), w) := (zE_ (i := .aload_n 0) (by decide +kernel) _ _ _).trans rfl
theorem e133_28n (v1 v2 v3 v4 v5 v6 v7 v8 v9 v10 : Value) (st : List Value) (w : zH) : zrun none (133, 28, [.null, v1, v2, v3, v4, v5, v6, v7, v8, v9, v10], st, w) = zrun none (133, 29, [.null, v1, v2, v3, v4, v5, v6, v7, v8, v9, v10], (.null :: st), w) := (zE_ (i := .aload_n 0) (by decide +kernel) _ _ _).trans rfl
theorem e133_29 (v0 v1 v2 v4 v5 v6 v7 v8 v9 v10 : Value) (x : Int32) (st : List Value) (w : zH) : zrun none (133, 29, [v0, v1, v2, .int x, v4, v5, v6, v7, v8, v9, v10], st, w) = zrun none (133, 30, [v0, v1, v2, .int x, v4, v5, v6, v7, v8, v9, v10], (.int x :: st), w) := (zE_ (i := .iload_n 3) (by decide +kernel) _ _ _).trans rfl
theorem e133_30 (v0 v1 v2 v3 v5 v6 v7 v8 v9 v10 : Value) (x : Int32) (st : List Value) (w : zH) : zrun none (133, 30, [v0, v1, v2, v3, .int x, v5, v6, v7, v8, v9, v10], st, w) = zrun none (133, 32, [v0, v1, v2, v3, .int x, v5, v6, v7, v8, v9, v10], (.int x :: st), w) := (zE_ (i := .iload 4) (by decide +kernel) _ _ _).trans rfl
theorem e133_32 (ls : List Value) (a : Nat) (x0 : Int32) (x1 : Int32) (st : List Value) (w : zH) (hr : zcat st ≤ 8) : zrun none (133, 32, ls, (.int x1 :: .int x0 :: .ref a :: st), w) = zgd (zis w a 8) (zcl (zrun none (43, 0, [.ref a, .int x0, .int x1], [], w)) (fun r => zrun none (133, 35, ls, r.1.toList ++ st, r.2))) := by
  refine (zE_ (i := .invokevirtual 43) (by decide +kernel) _ _ _).trans ?_
  show zres (zinv none 43 133 32 ls (.int x1 :: .int x0 :: .ref a :: st) w) = _
  unfold zinv
  show zres (if zrc none 43 w (.ref a) = true then zcall 43 [.ref a, .int x0, .int x1] st 133 32 ls w else none) = _
  by_cases hc : zis w a 8
  · rw [if_pos (zrc_is hc (by decide +kernel)), zgd_pos hc]
    exact zq_call hr (Nat.le_of_ble_eq_true rfl) rfl rfl
  · rw [zgd_neg hc, if_neg (fun q => hc (zrc_of q (by decide +kernel)))]
    rfl
theorem e133_35 (v0 v1 v2 v3 v4 v5 v6 v7 v8 v9 v10 : Value) (x : Int32) (st : List Value) (w : zH) (h : v6.category = 1) : zrun none (133, 35, [v0, v1, v2, v3, v4, v5, v6, v7, v8, v9, v10], (.int x :: st), w) = zrun none (133, 37, [v0, v1, v2, v3, v4, v5, v6, .int x, v8, v9, v10], st, w) := by
  refine (zE_ (i := .istore 7) (by decide +kernel) _ _ _).trans ?_
  have hz : zfree [v0, v1, v2, v3, v4, v5, v6, v7, v8, v9, v10] 7 = true := by show decide (v6.category = 1) = true; exact decide_eq_true h
  show zres (zst zint 7 2 133 35 [v0, v1, v2, v3, v4, v5, v6, v7, v8, v9, v10] (.int x :: st) w) = _
  unfold zst
  dsimp only
  rw [if_pos ⟨rfl, Nat.le_of_ble_eq_true rfl, hz⟩]
  rfl
theorem e133_37 (ls st : List Value) (w : zH) : zrun none (133, 37, ls, st, w) = zrun none (133, 38, ls, (.int 1 :: st), w) := (zE_ (i := .iconst 1) (by decide +kernel) _ _ _).trans rfl
theorem e133_38 (v0 v1 v2 v3 v4 v5 v6 v7 v8 v9 v10 : Value) (x : Int32) (st : List Value) (w : zH) (h : v7.category = 1) : zrun none (133, 38, [v0, v1, v2, v3, v4, v5, v6, v7, v8, v9, v10], (.int x :: st), w) = zrun none (133, 40, [v0, v1, v2, v3, v4, v5, v6, v7, .int x, v9, v10], st, w) := by
  refine (zE_ (i := .istore 8) (by decide +kernel) _ _ _).trans ?_
  have hz : zfree [v0, v1, v2, v3, v4, v5, v6, v7, v8, v9, v10] 8 = true := by show decide (v7.category = 1) = true; exact decide_eq_true h
  show zres (zst zint 8 2 133 38 [v0, v1, v2, v3, v4, v5, v6, v7, v8, v9, v10] (.int x :: st) w) = _
  unfold zst
  dsimp only
  rw [if_pos ⟨rfl, Nat.le_of_ble_eq_true rfl, hz⟩]
  rfl
theorem e133_40 (v0 v1 v2 v3 v4 v5 v6 v7 v9 v10 : Value) (x : Int32) (st : List Value) (w : zH) : zrun none (133, 40, [v0, v1, v2, v3, v4, v5, v6, v7, .int x, v9, v10], st, w) = zrun none (133, 42, [v0, v1, v2, v3, v4, v5, v6, v7, .int x, v9, v10], (.int x :: st), w) := (zE_ (i := .iload 8) (by decide +kernel) _ _ _).trans rfl
theorem e133_42 (v0 v1 v2 v3 v4 v6 v7 v8 v9 v10 : Value) (x : Int32) (st : List Value) (w : zH) : zrun none (133, 42, [v0, v1, v2, v3, v4, .int x, v6, v7, v8, v9, v10], st, w) = zrun none (133, 44, [v0, v1, v2, v3, v4, .int x, v6, v7, v8, v9, v10], (.int x :: st), w) := (zE_ (i := .iload 5) (by decide +kernel) _ _ _).trans rfl
theorem e133_44 (ls : List Value) (a b : Int32) (st : List Value) (w : zH) : zrun none (133, 44, ls, (.int b :: .int a :: st), w) = if b ≤ a then zrun none (133, 114, ls, st, w) else zrun none (133, 47, ls, st, w) := (zE_ (i := .if_icmp .ge 70) (by decide +kernel) _ _ _).trans (zq_ic_ge rfl rfl)
theorem e133_47 (v0 v2 v3 v4 v5 v6 v7 v8 v9 v10 : Value) (x : Int32) (st : List Value) (w : zH) : zrun none (133, 47, [v0, .int x, v2, v3, v4, v5, v6, v7, v8, v9, v10], st, w) = zrun none (133, 48, [v0, .int x, v2, v3, v4, v5, v6, v7, v8, v9, v10], (.int x :: st), w) := (zE_ (i := .iload_n 1) (by decide +kernel) _ _ _).trans rfl
theorem e133_48 (v0 v1 v2 v4 v5 v6 v7 v8 v9 v10 : Value) (x : Int32) (st : List Value) (w : zH) : zrun none (133, 48, [v0, v1, v2, .int x, v4, v5, v6, v7, v8, v9, v10], st, w) = zrun none (133, 49, [v0, v1, v2, .int x, v4, v5, v6, v7, v8, v9, v10], (.int x :: st), w) := (zE_ (i := .iload_n 3) (by decide +kernel) _ _ _).trans rfl
theorem e133_49 (v0 v2 v3 v4 v5 v6 v7 v8 v9 v10 : Value) (x : Int32) (st : List Value) (w : zH) : zrun none (133, 49, [v0, .int x, v2, v3, v4, v5, v6, v7, v8, v9, v10], st, w) = zrun none (133, 50, [v0, .int x, v2, v3, v4, v5, v6, v7, v8, v9, v10], (.int x :: st), w) := (zE_ (i := .iload_n 1) (by decide +kernel) _ _ _).trans rfl
theorem e133_50 (ls : List Value) (a b : Int32) (st : List Value) (w : zH) : zrun none (133, 50, ls, (.int b :: .int a :: st), w) = zrun none (133, 51, ls, (.int (a - b) :: st), w) := (zE_ (i := .isub) (by decide +kernel) _ _ _).trans rfl
theorem e133_51 (v0 v1 v2 v3 v4 v5 v6 v7 v9 v10 : Value) (x : Int32) (st : List Value) (w : zH) : zrun none (133, 51, [v0, v1, v2, v3, v4, v5, v6, v7, .int x, v9, v10], st, w) = zrun none (133, 53, [v0, v1, v2, v3, v4, v5, v6, v7, .int x, v9, v10], (.int x :: st), w) := (zE_ (i := .iload 8) (by decide +kernel) _ _ _).trans rfl
theorem e133_53 (ls : List Value) (a b : Int32) (st : List Value) (w : zH) : zrun none (133, 53, ls, (.int b :: .int a :: st), w) = zrun none (133, 54, ls, (.int (a * b) :: st), w) := (zE_ (i := .imul) (by decide +kernel) _ _ _).trans rfl
theorem e133_54 (v0 v1 v2 v3 v4 v6 v7 v8 v9 v10 : Value) (x : Int32) (st : List Value) (w : zH) : zrun none (133, 54, [v0, v1, v2, v3, v4, .int x, v6, v7, v8, v9, v10], st, w) = zrun none (133, 56, [v0, v1, v2, v3, v4, .int x, v6, v7, v8, v9, v10], (.int x :: st), w) := (zE_ (i := .iload 5) (by decide +kernel) _ _ _).trans rfl
theorem e133_56 (ls : List Value) (x0 : Int32) (x1 : Int32) (st : List Value) (w : zH) (hr : zcat st ≤ 8) : zrun none (133, 56, ls, (.int x1 :: .int x0 :: st), w) = zcl (zrun none (134, 0, [.int x0, .int x1], [], w)) (fun r => zrun none (133, 59, ls, r.1.toList ++ st, r.2)) := by
  refine (zE_ (i := .invokestatic 134) (by decide +kernel) _ _ _).trans ?_
  show zres (if (99 : Nat) = 99 ∧ 2 ≤ ((.int x1 :: .int x0 :: st) : List Value).length then zcall 134 [.int x0, .int x1] st 133 56 ls w else none) = _
  rw [if_pos ⟨rfl, by simp⟩]
  exact zq_call hr (Nat.le_of_ble_eq_true rfl) rfl rfl
theorem e133_59 (ls : List Value) (a b : Int32) (st : List Value) (w : zH) : zrun none (133, 59, ls, (.int b :: .int a :: st), w) = zrun none (133, 60, ls, (.int (a + b) :: st), w) := (zE_ (i := .iadd) (by decide +kernel) _ _ _).trans rfl
theorem e133_60 (v0 v1 v2 v3 v4 v5 v6 v7 v8 v9 v10 : Value) (x : Int32) (st : List Value) (w : zH) (h : v8.category = 1) : zrun none (133, 60, [v0, v1, v2, v3, v4, v5, v6, v7, v8, v9, v10], (.int x :: st), w) = zrun none (133, 62, [v0, v1, v2, v3, v4, v5, v6, v7, v8, .int x, v10], st, w) := by
  refine (zE_ (i := .istore 9) (by decide +kernel) _ _ _).trans ?_
  have hz : zfree [v0, v1, v2, v3, v4, v5, v6, v7, v8, v9, v10] 9 = true := by show decide (v8.category = 1) = true; exact decide_eq_true h
  show zres (zst zint 9 2 133 60 [v0, v1, v2, v3, v4, v5, v6, v7, v8, v9, v10] (.int x :: st) w) = _
  unfold zst
  dsimp only
  rw [if_pos ⟨rfl, Nat.le_of_ble_eq_true rfl, hz⟩]
  rfl
theorem e133_62 (v0 v1 v3 v4 v5 v6 v7 v8 v9 v10 : Value) (x : Int32) (st : List Value) (w : zH) : zrun none (133, 62, [v0, v1, .int x, v3, v4, v5, v6, v7, v8, v9, v10], st, w) = zrun none (133, 63, [v0, v1, .int x, v3, v4, v5, v6, v7, v8, v9, v10], (.int x :: st), w) := (zE_ (i := .iload_n 2) (by decide +kernel) _ _ _).trans rfl
theorem e133_63 (v0 v1 v2 v3 v5 v6 v7 v8 v9 v10 : Value) (x : Int32) (st : List Value) (w : zH) : zrun none (133, 63, [v0, v1, v2, v3, .int x, v5, v6, v7, v8, v9, v10], st, w) = zrun none (133, 65, [v0, v1, v2, v3, .int x, v5, v6, v7, v8, v9, v10], (.int x :: st), w) := (zE_ (i := .iload 4) (by decide +kernel) _ _ _).trans rfl
theorem e133_65 (v0 v1 v3 v4 v5 v6 v7 v8 v9 v10 : Value) (x : Int32) (st : List Value) (w : zH) : zrun none (133, 65, [v0, v1, .int x, v3, v4, v5, v6, v7, v8, v9, v10], st, w) = zrun none (133, 66, [v0, v1, .int x, v3, v4, v5, v6, v7, v8, v9, v10], (.int x :: st), w) := (zE_ (i := .iload_n 2) (by decide +kernel) _ _ _).trans rfl
theorem e133_66 (ls : List Value) (a b : Int32) (st : List Value) (w : zH) : zrun none (133, 66, ls, (.int b :: .int a :: st), w) = zrun none (133, 67, ls, (.int (a - b) :: st), w) := (zE_ (i := .isub) (by decide +kernel) _ _ _).trans rfl
theorem e133_67 (v0 v1 v2 v3 v4 v5 v6 v7 v9 v10 : Value) (x : Int32) (st : List Value) (w : zH) : zrun none (133, 67, [v0, v1, v2, v3, v4, v5, v6, v7, .int x, v9, v10], st, w) = zrun none (133, 69, [v0, v1, v2, v3, v4, v5, v6, v7, .int x, v9, v10], (.int x :: st), w) := (zE_ (i := .iload 8) (by decide +kernel) _ _ _).trans rfl
theorem e133_69 (ls : List Value) (a b : Int32) (st : List Value) (w : zH) : zrun none (133, 69, ls, (.int b :: .int a :: st), w) = zrun none (133, 70, ls, (.int (a * b) :: st), w) := (zE_ (i := .imul) (by decide +kernel) _ _ _).trans rfl
theorem e133_70 (v0 v1 v2 v3 v4 v6 v7 v8 v9 v10 : Value) (x : Int32) (st : List Value) (w : zH) : zrun none (133, 70, [v0, v1, v2, v3, v4, .int x, v6, v7, v8, v9, v10], st, w) = zrun none (133, 72, [v0, v1, v2, v3, v4, .int x, v6, v7, v8, v9, v10], (.int x :: st), w) := (zE_ (i := .iload 5) (by decide +kernel) _ _ _).trans rfl
theorem e133_72 (ls : List Value) (x0 : Int32) (x1 : Int32) (st : List Value) (w : zH) (hr : zcat st ≤ 8) : zrun none (133, 72, ls, (.int x1 :: .int x0 :: st), w) = zcl (zrun none (134, 0, [.int x0, .int x1], [], w)) (fun r => zrun none (133, 75, ls, r.1.toList ++ st, r.2)) := by
  refine (zE_ (i := .invokestatic 134) (by decide +kernel) _ _ _).trans ?_
  show zres (if (99 : Nat) = 99 ∧ 2 ≤ ((.int x1 :: .int x0 :: st) : List Value).length then zcall 134 [.int x0, .int x1] st 133 72 ls w else none) = _
  rw [if_pos ⟨rfl, by simp⟩]
  exact zq_call hr (Nat.le_of_ble_eq_true rfl) rfl rfl
theorem e133_75 (ls : List Value) (a b : Int32) (st : List Value) (w : zH) : zrun none (133, 75, ls, (.int b :: .int a :: st), w) = zrun none (133, 76, ls, (.int (a + b) :: st), w) := (zE_ (i := .iadd) (by decide +kernel) _ _ _).trans rfl
theorem e133_76 (v0 v1 v2 v3 v4 v5 v6 v7 v8 v9 v10 : Value) (x : Int32) (st : List Value) (w : zH) (h : v9.category = 1) : zrun none (133, 76, [v0, v1, v2, v3, v4, v5, v6, v7, v8, v9, v10], (.int x :: st), w) = zrun none (133, 78, [v0, v1, v2, v3, v4, v5, v6, v7, v8, v9, .int x], st, w) := by
  refine (zE_ (i := .istore 10) (by decide +kernel) _ _ _).trans ?_
  have hz : zfree [v0, v1, v2, v3, v4, v5, v6, v7, v8, v9, v10] 10 = true := by show decide (v9.category = 1) = true; exact decide_eq_true h
  show zres (zst zint 10 2 133 76 [v0, v1, v2, v3, v4, v5, v6, v7, v8, v9, v10] (.int x :: st) w) = _
  unfold zst
  dsimp only
  rw [if_pos ⟨rfl, Nat.le_of_ble_eq_true rfl, hz⟩]
  rfl
theorem e133_78 (v1 v2 v3 v4 v5 v6 v7 v8 v9 v10 : Value) (x : Nat) (st : List Value) (w : zH) : zrun none (133, 78, [.ref x, v1, v2, v3, v4, v5, v6, v7, v8, v9, v10], st, w) = zrun none (133, 79, [.ref x, v1, v2, v3, v4, v5, v6, v7, v8, v9, v10], (.ref x :: st), w) := (zE_ (i := .aload_n 0) (by decide +kernel) _ _ _).trans rfl
theorem e133_78n (v1 v2 v3 v4 v5 v6 v7 v8 v9 v10 : Value) (st : List Value) (w : zH) : zrun none (133, 78, [.null, v1, v2, v3, v4, v5, v6, v7, v8, v9, v10], st, w) = zrun none (133, 79, [.null, v1, v2, v3, v4, v5, v6, v7, v8, v9, v10], (.null :: st), w) := (zE_ (i := .aload_n 0) (by decide +kernel) _ _ _).trans rfl
theorem e133_79 (v0 v1 v2 v3 v4 v5 v6 v7 v8 v10 : Value) (x : Int32) (st : List Value) (w : zH) : zrun none (133, 79, [v0, v1, v2, v3, v4, v5, v6, v7, v8, .int x, v10], st, w) = zrun none (133, 81, [v0, v1, v2, v3, v4, v5, v6, v7, v8, .int x, v10], (.int x :: st), w) := (zE_ (i := .iload 9) (by decide +kernel) _ _ _).trans rfl
theorem e133_81 (v0 v1 v2 v3 v4 v5 v6 v7 v8 v9 : Value) (x : Int32) (st : List Value) (w : zH) : zrun none (133, 81, [v0, v1, v2, v3, v4, v5, v6, v7, v8, v9, .int x], st, w) = zrun none (133, 83, [v0, v1, v2, v3, v4, v5, v6, v7, v8, v9, .int x], (.int x :: st), w) := (zE_ (i := .iload 10) (by decide +kernel) _ _ _).trans rfl
theorem e133_83 (ls : List Value) (a : Nat) (x0 : Int32) (x1 : Int32) (st : List Value) (w : zH) (hr : zcat st ≤ 8) : zrun none (133, 83, ls, (.int x1 :: .int x0 :: .ref a :: st), w) = zgd (zis w a 8) (zcl (zrun none (43, 0, [.ref a, .int x0, .int x1], [], w)) (fun r => zrun none (133, 86, ls, r.1.toList ++ st, r.2))) := by
  refine (zE_ (i := .invokevirtual 43) (by decide +kernel) _ _ _).trans ?_
  show zres (zinv none 43 133 83 ls (.int x1 :: .int x0 :: .ref a :: st) w) = _
  unfold zinv
  show zres (if zrc none 43 w (.ref a) = true then zcall 43 [.ref a, .int x0, .int x1] st 133 83 ls w else none) = _
  by_cases hc : zis w a 8
  · rw [if_pos (zrc_is hc (by decide +kernel)), zgd_pos hc]
    exact zq_call hr (Nat.le_of_ble_eq_true rfl) rfl rfl
  · rw [zgd_neg hc, if_neg (fun q => hc (zrc_of q (by decide +kernel)))]
    rfl
theorem e133_86 (v0 v1 v2 v3 v4 v6 v7 v8 v9 v10 : Value) (x : Int32) (st : List Value) (w : zH) : zrun none (133, 86, [v0, v1, v2, v3, v4, .int x, v6, v7, v8, v9, v10], st, w) = zrun none (133, 88, [v0, v1, v2, v3, v4, .int x, v6, v7, v8, v9, v10], (.int x :: st), w) := (zE_ (i := .iload 5) (by decide +kernel) _ _ _).trans rfl
theorem e133_88 (ls : List Value) (a b : Int32) (st : List Value) (w : zH) : zrun none (133, 88, ls, (.int b :: .int a :: st), w) = zrun none (133, 89, ls, (.int (a * b) :: st), w) := (zE_ (i := .imul) (by decide +kernel) _ _ _).trans rfl
theorem e133_89 (v0 v1 v2 v3 v4 v5 v7 v8 v9 v10 : Value) (x : Int32) (st : List Value) (w : zH) : zrun none (133, 89, [v0, v1, v2, v3, v4, v5, .int x, v7, v8, v9, v10], st, w) = zrun none (133, 91, [v0, v1, v2, v3, v4, v5, .int x, v7, v8, v9, v10], (.int x :: st), w) := (zE_ (i := .iload 6) (by decide +kernel) _ _ _).trans rfl
theorem e133_91 (v0 v1 v2 v3 v4 v6 v7 v8 v9 v10 : Value) (x : Int32) (st : List Value) (w : zH) : zrun none (133, 91, [v0, v1, v2, v3, v4, .int x, v6, v7, v8, v9, v10], st, w) = zrun none (133, 93, [v0, v1, v2, v3, v4, .int x, v6, v7, v8, v9, v10], (.int x :: st), w) := (zE_ (i := .iload 5) (by decide +kernel) _ _ _).trans rfl
theorem e133_93 (v0 v1 v2 v3 v4 v5 v6 v7 v9 v10 : Value) (x : Int32) (st : List Value) (w : zH) : zrun none (133, 93, [v0, v1, v2, v3, v4, v5, v6, v7, .int x, v9, v10], st, w) = zrun none (133, 95, [v0, v1, v2, v3, v4, v5, v6, v7, .int x, v9, v10], (.int x :: st), w) := (zE_ (i := .iload 8) (by decide +kernel) _ _ _).trans rfl
theorem e133_95 (ls : List Value) (a b : Int32) (st : List Value) (w : zH) : zrun none (133, 95, ls, (.int b :: .int a :: st), w) = zrun none (133, 96, ls, (.int (a - b) :: st), w) := (zE_ (i := .isub) (by decide +kernel) _ _ _).trans rfl
theorem e133_96 (ls : List Value) (a b : Int32) (st : List Value) (w : zH) : zrun none (133, 96, ls, (.int b :: .int a :: st), w) = zrun none (133, 97, ls, (.int (a * b) :: st), w) := (zE_ (i := .imul) (by decide +kernel) _ _ _).trans rfl
theorem e133_97 (v0 v1 v2 v3 v4 v5 v6 v8 v9 v10 : Value) (x : Int32) (st : List Value) (w : zH) : zrun none (133, 97, [v0, v1, v2, v3, v4, v5, v6, .int x, v8, v9, v10], st, w) = zrun none (133, 99, [v0, v1, v2, v3, v4, v5, v6, .int x, v8, v9, v10], (.int x :: st), w) := (zE_ (i := .iload 7) (by decide +kernel) _ _ _).trans rfl
theorem e133_99 (v0 v1 v2 v3 v4 v5 v6 v7 v9 v10 : Value) (x : Int32) (st : List Value) (w : zH) : zrun none (133, 99, [v0, v1, v2, v3, v4, v5, v6, v7, .int x, v9, v10], st, w) = zrun none (133, 101, [v0, v1, v2, v3, v4, v5, v6, v7, .int x, v9, v10], (.int x :: st), w) := (zE_ (i := .iload 8) (by decide +kernel) _ _ _).trans rfl
theorem e133_101 (ls : List Value) (a b : Int32) (st : List Value) (w : zH) : zrun none (133, 101, ls, (.int b :: .int a :: st), w) = zrun none (133, 102, ls, (.int (a * b) :: st), w) := (zE_ (i := .imul) (by decide +kernel) _ _ _).trans rfl
theorem e133_102 (ls : List Value) (a b : Int32) (st : List Value) (w : zH) : zrun none (133, 102, ls, (.int b :: .int a :: st), w) = zrun none (133, 103, ls, (.int (a + b) :: st), w) := (zE_ (i := .iadd) (by decide +kernel) _ _ _).trans rfl
theorem e133_103 (ls : List Value) (a b : Int32) (st : List Value) (w : zH) : zrun none (133, 103, ls, (.int b :: .int a :: st), w) = if a ≤ b then zrun none (133, 108, ls, st, w) else zrun none (133, 106, ls, st, w) := (zE_ (i := .if_icmp .le 5) (by decide +kernel) _ _ _).trans (zq_ic_le rfl rfl)
theorem e133_106 (ls st : List Value) (w : zH) : zrun none (133, 106, ls, st, w) = zrun none (133, 107, ls, (.int 0 :: st), w) := (zE_ (i := .iconst 0) (by decide +kernel) _ _ _).trans rfl
theorem e133_107 (ls : List Value) (x : Int32) (w : zH) (h : narrow .boolean (.int x) = .int x) : zrun none (133, 107, ls, [.int x], w) = some (some (.int x), w) := by
  refine (zE_ (i := .ireturn) (by decide +kernel) _ _ _).trans ?_
  show zres (if narrow .boolean (.int x) = .int x then _ else none) = _
  rw [if_pos h]
  rfl
theorem e133_108 (v0 v1 v2 v3 v4 v5 v6 v7 v9 v10 : Value) (x : Int32) (st : List Value) (w : zH) : zrun none (133, 108, [v0, v1, v2, v3, v4, v5, v6, v7, .int x, v9, v10], st, w) = zrun none (133, 111, [v0, v1, v2, v3, v4, v5, v6, v7, .int (x + 1), v9, v10], st, w) := (zE_ (i := .iinc 8 1) (by decide +kernel) _ _ _).trans rfl
theorem e133_111 (ls st : List Value) (w : zH) : zrun none (133, 111, ls, st, w) = zrun none (133, 40, ls, st, w) := (zE_ (i := .goto (-71)) (by decide +kernel) _ _ _).trans rfl
theorem e133_114 (ls st : List Value) (w : zH) : zrun none (133, 114, ls, st, w) = zrun none (133, 115, ls, (.int 1 :: st), w) := (zE_ (i := .iconst 1) (by decide +kernel) _ _ _).trans rfl
theorem e133_115 (ls : List Value) (x : Int32) (w : zH) (h : narrow .boolean (.int x) = .int x) : zrun none (133, 115, ls, [.int x], w) = some (some (.int x), w) := by
  refine (zE_ (i := .ireturn) (by decide +kernel) _ _ _).trans ?_
  show zres (if narrow .boolean (.int x) = .int x then _ else none) = _
  rw [if_pos h]
  rfl
theorem e134_0 (v0 : Value) (x : Int32) (st : List Value) (w : zH) : zrun none (134, 0, [v0, .int x], st, w) = zrun none (134, 1, [v0, .int x], (.int x :: st), w) := (zE_ (i := .iload_n 1) (by decide +kernel) _ _ _).trans rfl
theorem e134_1 (ls : List Value) (a : Int32) (st : List Value) (w : zH) : zrun none (134, 1, ls, (.int a :: st), w) = if 0 < a then zrun none (134, 8, ls, st, w) else zrun none (134, 4, ls, st, w) := (zE_ (i := .ifCond .gt 7) (by decide +kernel) _ _ _).trans (zq_if_gt rfl rfl)
theorem e134_4 (ls st : List Value) (w : zH) : zrun none (134, 4, ls, st, w) = zrun none (134, 5, ls, (.int 0 :: st), w) := (zE_ (i := .iconst 0) (by decide +kernel) _ _ _).trans rfl
theorem e134_5 (ls st : List Value) (w : zH) : zrun none (134, 5, ls, st, w) = zrun none (134, 19, ls, st, w) := (zE_ (i := .goto 14) (by decide +kernel) _ _ _).trans rfl
theorem e134_8 (ls st : List Value) (w : zH) : zrun none (134, 8, ls, st, w) = zrun none (134, 9, ls, (.int 2 :: st), w) := (zE_ (i := .iconst 2) (by decide +kernel) _ _ _).trans rfl
theorem e134_9 (v1 : Value) (x : Int32) (st : List Value) (w : zH) : zrun none (134, 9, [.int x, v1], st, w) = zrun none (134, 10, [.int x, v1], (.int x :: st), w) := (zE_ (i := .iload_n 0) (by decide +kernel) _ _ _).trans rfl
theorem e134_10 (ls : List Value) (a b : Int32) (st : List Value) (w : zH) : zrun none (134, 10, ls, (.int b :: .int a :: st), w) = zrun none (134, 11, ls, (.int (a * b) :: st), w) := (zE_ (i := .imul) (by decide +kernel) _ _ _).trans rfl
theorem e134_11 (v0 : Value) (x : Int32) (st : List Value) (w : zH) : zrun none (134, 11, [v0, .int x], st, w) = zrun none (134, 12, [v0, .int x], (.int x :: st), w) := (zE_ (i := .iload_n 1) (by decide +kernel) _ _ _).trans rfl
theorem e134_12 (ls : List Value) (a b : Int32) (st : List Value) (w : zH) : zrun none (134, 12, ls, (.int b :: .int a :: st), w) = zrun none (134, 13, ls, (.int (a + b) :: st), w) := (zE_ (i := .iadd) (by decide +kernel) _ _ _).trans rfl
theorem e134_13 (ls st : List Value) (w : zH) : zrun none (134, 13, ls, st, w) = zrun none (134, 14, ls, (.int 2 :: st), w) := (zE_ (i := .iconst 2) (by decide +kernel) _ _ _).trans rfl
theorem e134_14 (v0 : Value) (x : Int32) (st : List Value) (w : zH) : zrun none (134, 14, [v0, .int x], st, w) = zrun none (134, 15, [v0, .int x], (.int x :: st), w) := (zE_ (i := .iload_n 1) (by decide +kernel) _ _ _).trans rfl
theorem e134_15 (ls : List Value) (a b : Int32) (st : List Value) (w : zH) : zrun none (134, 15, ls, (.int b :: .int a :: st), w) = zrun none (134, 16, ls, (.int (a * b) :: st), w) := (zE_ (i := .imul) (by decide +kernel) _ _ _).trans rfl
theorem e134_16 (ls : List Value) (x0 : Int32) (x1 : Int32) (st : List Value) (w : zH) (hr : zcat st ≤ 8) : zrun none (134, 16, ls, (.int x1 :: .int x0 :: st), w) = zcl (zrun none (226, 0, [.int x0, .int x1, zJ], [], w)) (fun r => zrun none (134, 19, ls, r.1.toList ++ st, r.2)) := by
  refine (zE_ (i := .invokestatic 226) (by decide +kernel) _ _ _).trans ?_
  show zres (if (99 : Nat) = 99 ∧ 2 ≤ ((.int x1 :: .int x0 :: st) : List Value).length then zcall 226 [.int x0, .int x1] st 134 16 ls w else none) = _
  rw [if_pos ⟨rfl, by simp⟩]
  exact zq_call hr (Nat.le_of_ble_eq_true rfl) rfl rfl
theorem e134_19 (ls : List Value) (x : Int32) (w : zH) : zrun none (134, 19, ls, [.int x], w) = some (some (.int x), w) := by
  refine (zE_ (i := .ireturn) (by decide +kernel) _ _ _).trans ?_
  show zres (if narrow .int (.int x) = .int x then _ else none) = _
  rw [if_pos (show narrow .int (.int x) = .int x from rfl)]
  rfl
theorem e135_0 (v1 : Value) (x : Nat) (st : List Value) (w : zH) : zrun none (135, 0, [.ref x, v1], st, w) = zrun none (135, 1, [.ref x, v1], (.ref x :: st), w) := (zE_ (i := .aload_n 0) (by decide +kernel) _ _ _).trans rfl
theorem e135_1 (ls : List Value) (a : Nat) (st : List Value) (w : zH) : zrun none (135, 1, ls, (.ref a :: st), w) = zo (zf w a 1118) (fun x => zrun none (135, 4, ls, (x :: st), w)) := (zE_ (i := .getfield 1118) (by decide +kernel) _ _ _).trans zq_getf
theorem e135_4 (ls st : List Value) (w : zH) : zrun none (135, 4, ls, st, w) = zrun none (135, 6, ls, (.int 16 :: st), w) := (zE_ (i := .bipush 16) (by decide +kernel) _ _ _).trans rfl
theorem e135_6 (ls : List Value) (a b : Int32) (st : List Value) (w : zH) : zrun none (135, 6, ls, (.int b :: .int a :: st), w) = if b ≤ a then zrun none (135, 29, ls, st, w) else zrun none (135, 9, ls, st, w) := (zE_ (i := .if_icmp .ge 23) (by decide +kernel) _ _ _).trans (zq_ic_ge rfl rfl)
theorem e135_9 (v1 : Value) (x : Nat) (st : List Value) (w : zH) : zrun none (135, 9, [.ref x, v1], st, w) = zrun none (135, 10, [.ref x, v1], (.ref x :: st), w) := (zE_ (i := .aload_n 0) (by decide +kernel) _ _ _).trans rfl
theorem e135_10 (ls : List Value) (a : Nat) (st : List Value) (w : zH) : zrun none (135, 10, ls, (.ref a :: st), w) = zo (zf w a 1117) (fun x => zrun none (135, 13, ls, (x :: st), w)) := (zE_ (i := .getfield 1117) (by decide +kernel) _ _ _).trans zq_getf
theorem e135_13 (v1 : Value) (x : Nat) (st : List Value) (w : zH) : zrun none (135, 13, [.ref x, v1], st, w) = zrun none (135, 14, [.ref x, v1], (.ref x :: st), w) := (zE_ (i := .aload_n 0) (by decide +kernel) _ _ _).trans rfl
theorem e135_14 (ls : List Value) (a : Nat) (st : List Value) (w : zH) : zrun none (135, 14, ls, (.ref a :: st), w) = zo (zf w a 1118) (fun x => zrun none (135, 17, ls, (x :: st), w)) := (zE_ (i := .getfield 1118) (by decide +kernel) _ _ _).trans zq_getf
theorem e135_17 (v0 : Value) (x : Int32) (st : List Value) (w : zH) : zrun none (135, 17, [v0, .int x], st, w) = zrun none (135, 18, [v0, .int x], (.int x :: st), w) := (zE_ (i := .iload_n 1) (by decide +kernel) _ _ _).trans rfl
theorem e135_18 (ls : List Value) (x j : Int32) (a : Nat) (st : List Value) (w : zH) : zrun none (135, 18, ls, (.int x :: .int j :: .ref a :: st), w) = zgd (zin? w a 100 j) (zrun none (135, 19, ls, st, zas w a j (.int x))) := by
  refine (zE_ (i := .iastore) (by decide +kernel) _ _ _).trans ?_
  by_cases hg : zin? w a 100 j
  · rw [zgd_pos hg]
    exact zq_iast hg
  · rw [zgd_neg hg]
    exact zq_iast_no hg
theorem e135_19 (v1 : Value) (x : Nat) (st : List Value) (w : zH) : zrun none (135, 19, [.ref x, v1], st, w) = zrun none (135, 20, [.ref x, v1], (.ref x :: st), w) := (zE_ (i := .aload_n 0) (by decide +kernel) _ _ _).trans rfl
theorem e135_20 (ls : List Value) (x : Int32) (st : List Value) (w : zH) : zrun none (135, 20, ls, (.int x :: st), w) = zrun none (135, 21, ls, (.int x :: .int x :: st), w) := (zE_ (i := .dup) (by decide +kernel) _ _ _).trans rfl
theorem e135_20r (ls : List Value) (x : Nat) (st : List Value) (w : zH) : zrun none (135, 20, ls, (.ref x :: st), w) = zrun none (135, 21, ls, (.ref x :: .ref x :: st), w) := (zE_ (i := .dup) (by decide +kernel) _ _ _).trans rfl
theorem e135_21 (ls : List Value) (a : Nat) (st : List Value) (w : zH) : zrun none (135, 21, ls, (.ref a :: st), w) = zo (zf w a 1118) (fun x => zrun none (135, 24, ls, (x :: st), w)) := (zE_ (i := .getfield 1118) (by decide +kernel) _ _ _).trans zq_getf
theorem e135_24 (ls st : List Value) (w : zH) : zrun none (135, 24, ls, st, w) = zrun none (135, 25, ls, (.int 1 :: st), w) := (zE_ (i := .iconst 1) (by decide +kernel) _ _ _).trans rfl
theorem e135_25 (ls : List Value) (a b : Int32) (st : List Value) (w : zH) : zrun none (135, 25, ls, (.int b :: .int a :: st), w) = zrun none (135, 26, ls, (.int (a + b) :: st), w) := (zE_ (i := .iadd) (by decide +kernel) _ _ _).trans rfl
theorem e135_26 (ls : List Value) (x : Int32) (a : Nat) (st : List Value) (w : zH) : zrun none (135, 26, ls, (.int x :: .ref a :: st), w) = zgd (a < zX ∧ (zf w a 1118).isSome = true) (zrun none (135, 29, ls, st, zpf w a 1118 (.int x))) := by
  refine (zE_ (i := .putfield 1118) (by decide +kernel) _ _ _).trans ?_
  by_cases hg : a < zX ∧ (zf w a 1118).isSome = true
  · rw [zgd_pos hg]
    obtain ⟨ha, h⟩ := hg
    exact zq_putf ha h rfl rfl
  · rw [zgd_neg hg]
    exact zq_putf_no (fun h1 h2 h3 => hg ⟨h1, h2⟩)
theorem e135_29 (ls : List Value) (w : zH) : zrun none (135, 29, ls, [], w) = some (none, w) := (zE_ (i := .return_) (by decide +kernel) _ _ _).trans rfl
theorem e136_0 (v1 : Value) (x : Nat) (st : List Value) (w : zH) : zrun none (136, 0, [.ref x, v1], st, w) = zrun none (136, 1, [.ref x, v1], (.ref x :: st), w) := (zE_ (i := .aload_n 0) (by decide +kernel) _ _ _).trans rfl
theorem e136_1 (v0 : Value) (x : Nat) (st : List Value) (w : zH) : zrun none (136, 1, [v0, .ref x], st, w) = zrun none (136, 2, [v0, .ref x], (.ref x :: st), w) := (zE_ (i := .aload_n 1) (by decide +kernel) _ _ _).trans rfl
theorem e136_1n (v0 : Value) (st : List Value) (w : zH) : zrun none (136, 1, [v0, .null], st, w) = zrun none (136, 2, [v0, .null], (.null :: st), w) := (zE_ (i := .aload_n 1) (by decide +kernel) _ _ _).trans rfl
theorem e136_2 (v1 : Value) (x : Nat) (st : List Value) (w : zH) : zrun none (136, 2, [.ref x, v1], st, w) = zrun none (136, 3, [.ref x, v1], (.ref x :: st), w) := (zE_ (i := .aload_n 0) (by decide +kernel) _ _ _).trans rfl
theorem e136_3 (ls : List Value) (a : Nat) (st : List Value) (w : zH) : zrun none (136, 3, ls, (.ref a :: st), w) = zo (zf w a 1116) (fun x => zrun none (136, 6, ls, (x :: st), w)) := (zE_ (i := .getfield 1116) (by decide +kernel) _ _ _).trans zq_getf
theorem e136_6 (ls : List Value) (a : Nat) (x0 : Nat) (x1 : Int32) (st : List Value) (w : zH) (hr : zcat st ≤ 8) : zrun none (136, 6, ls, (.int x1 :: .ref x0 :: .ref a :: st), w) = zgd (zis w a 11) (zcl (zrun none (117, 0, [.ref a, .ref x0, .int x1, zJ, zJ], [], w)) (fun r => zrun none (136, 9, ls, r.1.toList ++ st, r.2))) := by
  refine (zE_ (i := .invokevirtual 117) (by decide +kernel) _ _ _).trans ?_
  show zres (zinv none 117 136 6 ls (.int x1 :: .ref x0 :: .ref a :: st) w) = _
  unfold zinv
  show zres (if zrc none 117 w (.ref a) = true then zcall 117 [.ref a, .ref x0, .int x1] st 136 6 ls w else none) = _
  by_cases hc : zis w a 11
  · rw [if_pos (zrc_is hc (by decide +kernel)), zgd_pos hc]
    exact zq_call hr (Nat.le_of_ble_eq_true rfl) rfl rfl
  · rw [zgd_neg hc, if_neg (fun q => hc (zrc_of q (by decide +kernel)))]
    rfl
theorem e136_9 (ls : List Value) (a : Int32) (st : List Value) (w : zH) : zrun none (136, 9, ls, (.int a :: st), w) = if a = 1 then zrun none (136, 42, ls, st, w) else if a = 2 then zrun none (136, 36, ls, st, w) else if a = 3 then zrun none (136, 48, ls, st, w) else zrun none (136, 54, ls, st, w) := by
  refine (zE_ (i := .tableswitch 45 1 3 #[33, 27, 39]) (by decide +kernel) _ _ _).trans ?_
  by_cases h1001 : a = 1
  · subst h1001
    rfl
  rw [if_neg h1001]
  by_cases h1002 : a = 2
  · subst h1002
    rfl
  rw [if_neg h1002]
  by_cases h1003 : a = 3
  · subst h1003
    rfl
  rw [if_neg h1003]
  have hr : a.toInt < 1 ∨ 3 < a.toInt := by
    by_cases q1 : a.toInt < 1
    · exact Or.inl q1
    by_cases q2 : 3 < a.toInt
    · exact Or.inr q2
    exfalso
    have k1001 := zne32 h1001
    have k1002 := zne32 h1002
    have k1003 := zne32 h1003
    have j1001 : ((1 : Int32)).toInt = 1 := by decide
    rw [j1001] at k1001
    have j1002 : ((2 : Int32)).toInt = 2 := by decide
    rw [j1002] at k1002
    have j1003 : ((3 : Int32)).toInt = 3 := by decide
    rw [j1003] at k1003
    omega
  simp only [zI, if_pos hr]
  rfl
theorem e136_36 (v1 : Value) (x : Nat) (st : List Value) (w : zH) : zrun none (136, 36, [.ref x, v1], st, w) = zrun none (136, 37, [.ref x, v1], (.ref x :: st), w) := (zE_ (i := .aload_n 0) (by decide +kernel) _ _ _).trans rfl
theorem e136_37 (v0 : Value) (x : Nat) (st : List Value) (w : zH) : zrun none (136, 37, [v0, .ref x], st, w) = zrun none (136, 38, [v0, .ref x], (.ref x :: st), w) := (zE_ (i := .aload_n 1) (by decide +kernel) _ _ _).trans rfl
theorem e136_37n (v0 : Value) (st : List Value) (w : zH) : zrun none (136, 37, [v0, .null], st, w) = zrun none (136, 38, [v0, .null], (.null :: st), w) := (zE_ (i := .aload_n 1) (by decide +kernel) _ _ _).trans rfl
theorem e136_38 (ls : List Value) (a : Nat) (x0 : Nat) (st : List Value) (w : zH) (hr : zcat st ≤ 8) : zrun none (136, 38, ls, (.ref x0 :: .ref a :: st), w) = zgd (zis w a 11) (zcl (zrun none (139, 0, [.ref a, .ref x0], [], w)) (fun r => zrun none (136, 41, ls, r.1.toList ++ st, r.2))) := by
  refine (zE_ (i := .invokevirtual 139) (by decide +kernel) _ _ _).trans ?_
  show zres (zinv none 139 136 38 ls (.ref x0 :: .ref a :: st) w) = _
  unfold zinv
  show zres (if zrc none 139 w (.ref a) = true then zcall 139 [.ref a, .ref x0] st 136 38 ls w else none) = _
  by_cases hc : zis w a 11
  · rw [if_pos (zrc_is hc (by decide +kernel)), zgd_pos hc]
    exact zq_call hr (Nat.le_of_ble_eq_true rfl) rfl rfl
  · rw [zgd_neg hc, if_neg (fun q => hc (zrc_of q (by decide +kernel)))]
    rfl
theorem e136_41 (ls : List Value) (x : Int32) (w : zH) : zrun none (136, 41, ls, [.int x], w) = some (some (.int x), w) := by
  refine (zE_ (i := .ireturn) (by decide +kernel) _ _ _).trans ?_
  show zres (if narrow .int (.int x) = .int x then _ else none) = _
  rw [if_pos (show narrow .int (.int x) = .int x from rfl)]
  rfl
theorem e136_42 (v1 : Value) (x : Nat) (st : List Value) (w : zH) : zrun none (136, 42, [.ref x, v1], st, w) = zrun none (136, 43, [.ref x, v1], (.ref x :: st), w) := (zE_ (i := .aload_n 0) (by decide +kernel) _ _ _).trans rfl
theorem e136_43 (v0 : Value) (x : Nat) (st : List Value) (w : zH) : zrun none (136, 43, [v0, .ref x], st, w) = zrun none (136, 44, [v0, .ref x], (.ref x :: st), w) := (zE_ (i := .aload_n 1) (by decide +kernel) _ _ _).trans rfl
theorem e136_43n (v0 : Value) (st : List Value) (w : zH) : zrun none (136, 43, [v0, .null], st, w) = zrun none (136, 44, [v0, .null], (.null :: st), w) := (zE_ (i := .aload_n 1) (by decide +kernel) _ _ _).trans rfl
theorem e136_44 (ls : List Value) (a : Nat) (x0 : Nat) (st : List Value) (w : zH) (hr : zcat st ≤ 8) : zrun none (136, 44, ls, (.ref x0 :: .ref a :: st), w) = zgd (zis w a 11) (zcl (zrun none (138, 0, [.ref a, .ref x0], [], w)) (fun r => zrun none (136, 47, ls, r.1.toList ++ st, r.2))) := by
  refine (zE_ (i := .invokevirtual 138) (by decide +kernel) _ _ _).trans ?_
  show zres (zinv none 138 136 44 ls (.ref x0 :: .ref a :: st) w) = _
  unfold zinv
  show zres (if zrc none 138 w (.ref a) = true then zcall 138 [.ref a, .ref x0] st 136 44 ls w else none) = _
  by_cases hc : zis w a 11
  · rw [if_pos (zrc_is hc (by decide +kernel)), zgd_pos hc]
    exact zq_call hr (Nat.le_of_ble_eq_true rfl) rfl rfl
  · rw [zgd_neg hc, if_neg (fun q => hc (zrc_of q (by decide +kernel)))]
    rfl
theorem e136_47 (ls : List Value) (x : Int32) (w : zH) : zrun none (136, 47, ls, [.int x], w) = some (some (.int x), w) := by
  refine (zE_ (i := .ireturn) (by decide +kernel) _ _ _).trans ?_
  show zres (if narrow .int (.int x) = .int x then _ else none) = _
  rw [if_pos (show narrow .int (.int x) = .int x from rfl)]
  rfl
theorem e136_48 (v1 : Value) (x : Nat) (st : List Value) (w : zH) : zrun none (136, 48, [.ref x, v1], st, w) = zrun none (136, 49, [.ref x, v1], (.ref x :: st), w) := (zE_ (i := .aload_n 0) (by decide +kernel) _ _ _).trans rfl
theorem e136_49 (v0 : Value) (x : Nat) (st : List Value) (w : zH) : zrun none (136, 49, [v0, .ref x], st, w) = zrun none (136, 50, [v0, .ref x], (.ref x :: st), w) := (zE_ (i := .aload_n 1) (by decide +kernel) _ _ _).trans rfl
theorem e136_49n (v0 : Value) (st : List Value) (w : zH) : zrun none (136, 49, [v0, .null], st, w) = zrun none (136, 50, [v0, .null], (.null :: st), w) := (zE_ (i := .aload_n 1) (by decide +kernel) _ _ _).trans rfl
theorem e136_50 (ls : List Value) (a : Nat) (x0 : Nat) (st : List Value) (w : zH) (hr : zcat st ≤ 8) : zrun none (136, 50, ls, (.ref x0 :: .ref a :: st), w) = zgd (zis w a 11) (zcl (zrun none (140, 0, [.ref a, .ref x0], [], w)) (fun r => zrun none (136, 53, ls, r.1.toList ++ st, r.2))) := by
  refine (zE_ (i := .invokevirtual 140) (by decide +kernel) _ _ _).trans ?_
  show zres (zinv none 140 136 50 ls (.ref x0 :: .ref a :: st) w) = _
  unfold zinv
  show zres (if zrc none 140 w (.ref a) = true then zcall 140 [.ref a, .ref x0] st 136 50 ls w else none) = _
  by_cases hc : zis w a 11
  · rw [if_pos (zrc_is hc (by decide +kernel)), zgd_pos hc]
    exact zq_call hr (Nat.le_of_ble_eq_true rfl) rfl rfl
  · rw [zgd_neg hc, if_neg (fun q => hc (zrc_of q (by decide +kernel)))]
    rfl
theorem e136_53 (ls : List Value) (x : Int32) (w : zH) : zrun none (136, 53, ls, [.int x], w) = some (some (.int x), w) := by
  refine (zE_ (i := .ireturn) (by decide +kernel) _ _ _).trans ?_
  show zres (if narrow .int (.int x) = .int x then _ else none) = _
  rw [if_pos (show narrow .int (.int x) = .int x from rfl)]
  rfl
theorem e136_54 (v1 : Value) (x : Nat) (st : List Value) (w : zH) : zrun none (136, 54, [.ref x, v1], st, w) = zrun none (136, 55, [.ref x, v1], (.ref x :: st), w) := (zE_ (i := .aload_n 0) (by decide +kernel) _ _ _).trans rfl
theorem e136_55 (v0 : Value) (x : Nat) (st : List Value) (w : zH) : zrun none (136, 55, [v0, .ref x], st, w) = zrun none (136, 56, [v0, .ref x], (.ref x :: st), w) := (zE_ (i := .aload_n 1) (by decide +kernel) _ _ _).trans rfl
theorem e136_55n (v0 : Value) (st : List Value) (w : zH) : zrun none (136, 55, [v0, .null], st, w) = zrun none (136, 56, [v0, .null], (.null :: st), w) := (zE_ (i := .aload_n 1) (by decide +kernel) _ _ _).trans rfl
theorem e136_56 (ls : List Value) (a : Nat) (x0 : Nat) (st : List Value) (w : zH) (hr : zcat st ≤ 8) : zrun none (136, 56, ls, (.ref x0 :: .ref a :: st), w) = zgd (zis w a 11) (zcl (zrun none (137, 0, [.ref a, .ref x0], [], w)) (fun r => zrun none (136, 59, ls, r.1.toList ++ st, r.2))) := by
  refine (zE_ (i := .invokevirtual 137) (by decide +kernel) _ _ _).trans ?_
  show zres (zinv none 137 136 56 ls (.ref x0 :: .ref a :: st) w) = _
  unfold zinv
  show zres (if zrc none 137 w (.ref a) = true then zcall 137 [.ref a, .ref x0] st 136 56 ls w else none) = _
  by_cases hc : zis w a 11
  · rw [if_pos (zrc_is hc (by decide +kernel)), zgd_pos hc]
    exact zq_call hr (Nat.le_of_ble_eq_true rfl) rfl rfl
  · rw [zgd_neg hc, if_neg (fun q => hc (zrc_of q (by decide +kernel)))]
    rfl
theorem e136_59 (ls : List Value) (x : Int32) (w : zH) : zrun none (136, 59, ls, [.int x], w) = some (some (.int x), w) := by
  refine (zE_ (i := .ireturn) (by decide +kernel) _ _ _).trans ?_
  show zres (if narrow .int (.int x) = .int x then _ else none) = _
  rw [if_pos (show narrow .int (.int x) = .int x from rfl)]
  rfl
theorem e137_0 (v1 : Value) (x : Nat) (st : List Value) (w : zH) : zrun none (137, 0, [.ref x, v1], st, w) = zrun none (137, 1, [.ref x, v1], (.ref x :: st), w) := (zE_ (i := .aload_n 0) (by decide +kernel) _ _ _).trans rfl
theorem e137_1 (ls st : List Value) (w : zH) : zrun none (137, 1, ls, st, w) = zrun none (137, 3, ls, (.int 10 :: st), w) := (zE_ (i := .bipush 10) (by decide +kernel) _ _ _).trans rfl
theorem e137_3 (ls : List Value) (a : Nat) (x0 : Int32) (st : List Value) (w : zH) (hr : zcat st ≤ 8) : zrun none (137, 3, ls, (.int x0 :: .ref a :: st), w) = zgd (zis w a 11) (zcl (zrun none (135, 0, [.ref a, .int x0], [], w)) (fun r => zrun none (137, 6, ls, r.1.toList ++ st, r.2))) := by
  refine (zE_ (i := .invokevirtual 135) (by decide +kernel) _ _ _).trans ?_
  show zres (zinv none 135 137 3 ls (.int x0 :: .ref a :: st) w) = _
  unfold zinv
  show zres (if zrc none 135 w (.ref a) = true then zcall 135 [.ref a, .int x0] st 137 3 ls w else none) = _
  by_cases hc : zis w a 11
  · rw [if_pos (zrc_is hc (by decide +kernel)), zgd_pos hc]
    exact zq_call hr (Nat.le_of_ble_eq_true rfl) rfl rfl
  · rw [zgd_neg hc, if_neg (fun q => hc (zrc_of q (by decide +kernel)))]
    rfl
theorem e137_6 (v0 : Value) (x : Nat) (st : List Value) (w : zH) : zrun none (137, 6, [v0, .ref x], st, w) = zrun none (137, 7, [v0, .ref x], (.ref x :: st), w) := (zE_ (i := .aload_n 1) (by decide +kernel) _ _ _).trans rfl
theorem e137_6n (v0 : Value) (st : List Value) (w : zH) : zrun none (137, 6, [v0, .null], st, w) = zrun none (137, 7, [v0, .null], (.null :: st), w) := (zE_ (i := .aload_n 1) (by decide +kernel) _ _ _).trans rfl
theorem e137_7 (ls : List Value) (a : Nat) (st : List Value) (w : zH) : zrun none (137, 7, ls, (.ref a :: st), w) = zo (zf w a 703) (fun x => zrun none (137, 10, ls, (x :: st), w)) := (zE_ (i := .getfield 703) (by decide +kernel) _ _ _).trans zq_getf
theorem e137_10 (ls : List Value) (x : Int32) (w : zH) : zrun none (137, 10, ls, [.int x], w) = some (some (.int x), w) := by
  refine (zE_ (i := .ireturn) (by decide +kernel) _ _ _).trans ?_
  show zres (if narrow .int (.int x) = .int x then _ else none) = _
  rw [if_pos (show narrow .int (.int x) = .int x from rfl)]
  rfl
theorem e138_0 (v1 : Value) (x : Nat) (st : List Value) (w : zH) : zrun none (138, 0, [.ref x, v1], st, w) = zrun none (138, 1, [.ref x, v1], (.ref x :: st), w) := (zE_ (i := .aload_n 0) (by decide +kernel) _ _ _).trans rfl
theorem e138_1 (ls st : List Value) (w : zH) : zrun none (138, 1, ls, st, w) = zrun none (138, 3, ls, (.int 11 :: st), w) := (zE_ (i := .bipush 11) (by decide +kernel) _ _ _).trans rfl
theorem e138_3 (ls : List Value) (a : Nat) (x0 : Int32) (st : List Value) (w : zH) (hr : zcat st ≤ 8) : zrun none (138, 3, ls, (.int x0 :: .ref a :: st), w) = zgd (zis w a 11) (zcl (zrun none (135, 0, [.ref a, .int x0], [], w)) (fun r => zrun none (138, 6, ls, r.1.toList ++ st, r.2))) := by
  refine (zE_ (i := .invokevirtual 135) (by decide +kernel) _ _ _).trans ?_
  show zres (zinv none 135 138 3 ls (.int x0 :: .ref a :: st) w) = _
  unfold zinv
  show zres (if zrc none 135 w (.ref a) = true then zcall 135 [.ref a, .int x0] st 138 3 ls w else none) = _
  by_cases hc : zis w a 11
  · rw [if_pos (zrc_is hc (by decide +kernel)), zgd_pos hc]
    exact zq_call hr (Nat.le_of_ble_eq_true rfl) rfl rfl
  · rw [zgd_neg hc, if_neg (fun q => hc (zrc_of q (by decide +kernel)))]
    rfl
theorem e138_6 (v1 : Value) (x : Nat) (st : List Value) (w : zH) : zrun none (138, 6, [.ref x, v1], st, w) = zrun none (138, 7, [.ref x, v1], (.ref x :: st), w) := (zE_ (i := .aload_n 0) (by decide +kernel) _ _ _).trans rfl
theorem e138_7 (v0 : Value) (x : Nat) (st : List Value) (w : zH) : zrun none (138, 7, [v0, .ref x], st, w) = zrun none (138, 8, [v0, .ref x], (.ref x :: st), w) := (zE_ (i := .aload_n 1) (by decide +kernel) _ _ _).trans rfl
theorem e138_7n (v0 : Value) (st : List Value) (w : zH) : zrun none (138, 7, [v0, .null], st, w) = zrun none (138, 8, [v0, .null], (.null :: st), w) := (zE_ (i := .aload_n 1) (by decide +kernel) _ _ _).trans rfl
theorem e138_8 (ls : List Value) (a : Nat) (x0 : Nat) (st : List Value) (w : zH) (hr : zcat st ≤ 8) : zrun none (138, 8, ls, (.ref x0 :: .ref a :: st), w) = zgd (zis w a 11) (zcl (zrun none (137, 0, [.ref a, .ref x0], [], w)) (fun r => zrun none (138, 11, ls, r.1.toList ++ st, r.2))) := by
  refine (zE_ (i := .invokevirtual 137) (by decide +kernel) _ _ _).trans ?_
  show zres (zinv none 137 138 8 ls (.ref x0 :: .ref a :: st) w) = _
  unfold zinv
  show zres (if zrc none 137 w (.ref a) = true then zcall 137 [.ref a, .ref x0] st 138 8 ls w else none) = _
  by_cases hc : zis w a 11
  · rw [if_pos (zrc_is hc (by decide +kernel)), zgd_pos hc]
    exact zq_call hr (Nat.le_of_ble_eq_true rfl) rfl rfl
  · rw [zgd_neg hc, if_neg (fun q => hc (zrc_of q (by decide +kernel)))]
    rfl
theorem e138_11 (v0 : Value) (x : Nat) (st : List Value) (w : zH) : zrun none (138, 11, [v0, .ref x], st, w) = zrun none (138, 12, [v0, .ref x], (.ref x :: st), w) := (zE_ (i := .aload_n 1) (by decide +kernel) _ _ _).trans rfl
theorem e138_11n (v0 : Value) (st : List Value) (w : zH) : zrun none (138, 11, [v0, .null], st, w) = zrun none (138, 12, [v0, .null], (.null :: st), w) := (zE_ (i := .aload_n 1) (by decide +kernel) _ _ _).trans rfl
theorem e138_12 (v1 : Value) (x : Nat) (st : List Value) (w : zH) : zrun none (138, 12, [.ref x, v1], st, w) = zrun none (138, 13, [.ref x, v1], (.ref x :: st), w) := (zE_ (i := .aload_n 0) (by decide +kernel) _ _ _).trans rfl
theorem e138_13 (ls : List Value) (a : Nat) (st : List Value) (w : zH) : zrun none (138, 13, ls, (.ref a :: st), w) = zo (zf w a 1116) (fun x => zrun none (138, 16, ls, (x :: st), w)) := (zE_ (i := .getfield 1116) (by decide +kernel) _ _ _).trans zq_getf
theorem e138_16 (ls : List Value) (a : Nat) (x0 : Int32) (st : List Value) (w : zH) (hr : zcat st ≤ 8) : zrun none (138, 16, ls, (.int x0 :: .ref a :: st), w) = zgd (zis w a 7) (zcl (zrun none (33, 0, [.ref a, .int x0], [], w)) (fun r => zrun none (138, 19, ls, r.1.toList ++ st, r.2))) := by
  refine (zE_ (i := .invokevirtual 33) (by decide +kernel) _ _ _).trans ?_
  show zres (zinv none 33 138 16 ls (.int x0 :: .ref a :: st) w) = _
  unfold zinv
  show zres (if zrc none 33 w (.ref a) = true then zcall 33 [.ref a, .int x0] st 138 16 ls w else none) = _
  by_cases hc : zis w a 7
  · rw [if_pos (zrc_is hc (by decide +kernel)), zgd_pos hc]
    exact zq_call hr (Nat.le_of_ble_eq_true rfl) rfl rfl
  · rw [zgd_neg hc, if_neg (fun q => hc (zrc_of q (by decide +kernel)))]
    rfl
theorem e138_19 (ls : List Value) (a b : Int32) (st : List Value) (w : zH) : zrun none (138, 19, ls, (.int b :: .int a :: st), w) = zrun none (138, 20, ls, (.int (a + b) :: st), w) := (zE_ (i := .iadd) (by decide +kernel) _ _ _).trans rfl
theorem e138_20 (ls : List Value) (x : Int32) (w : zH) : zrun none (138, 20, ls, [.int x], w) = some (some (.int x), w) := by
  refine (zE_ (i := .ireturn) (by decide +kernel) _ _ _).trans ?_
  show zres (if narrow .int (.int x) = .int x then _ else none) = _
  rw [if_pos (show narrow .int (.int x) = .int x from rfl)]
  rfl
theorem e139_0 (v1 : Value) (x : Nat) (st : List Value) (w : zH) : zrun none (139, 0, [.ref x, v1], st, w) = zrun none (139, 1, [.ref x, v1], (.ref x :: st), w) := (zE_ (i := .aload_n 0) (by decide +kernel) _ _ _).trans rfl
theorem e139_1 (ls st : List Value) (w : zH) : zrun none (139, 1, ls, st, w) = zrun none (139, 3, ls, (.int 12 :: st), w) := (zE_ (i := .bipush 12) (by decide +kernel) _ _ _).trans rfl
theorem e139_3 (ls : List Value) (a : Nat) (x0 : Int32) (st : List Value) (w : zH) (hr : zcat st ≤ 8) : zrun none (139, 3, ls, (.int x0 :: .ref a :: st), w) = zgd (zis w a 11) (zcl (zrun none (135, 0, [.ref a, .int x0], [], w)) (fun r => zrun none (139, 6, ls, r.1.toList ++ st, r.2))) := by
  refine (zE_ (i := .invokevirtual 135) (by decide +kernel) _ _ _).trans ?_
  show zres (zinv none 135 139 3 ls (.int x0 :: .ref a :: st) w) = _
  unfold zinv
  show zres (if zrc none 135 w (.ref a) = true then zcall 135 [.ref a, .int x0] st 139 3 ls w else none) = _
  by_cases hc : zis w a 11
  · rw [if_pos (zrc_is hc (by decide +kernel)), zgd_pos hc]
    exact zq_call hr (Nat.le_of_ble_eq_true rfl) rfl rfl
  · rw [zgd_neg hc, if_neg (fun q => hc (zrc_of q (by decide +kernel)))]
    rfl
theorem e139_6 (v1 : Value) (x : Nat) (st : List Value) (w : zH) : zrun none (139, 6, [.ref x, v1], st, w) = zrun none (139, 7, [.ref x, v1], (.ref x :: st), w) := (zE_ (i := .aload_n 0) (by decide +kernel) _ _ _).trans rfl
theorem e139_7 (v0 : Value) (x : Nat) (st : List Value) (w : zH) : zrun none (139, 7, [v0, .ref x], st, w) = zrun none (139, 8, [v0, .ref x], (.ref x :: st), w) := (zE_ (i := .aload_n 1) (by decide +kernel) _ _ _).trans rfl
theorem e139_7n (v0 : Value) (st : List Value) (w : zH) : zrun none (139, 7, [v0, .null], st, w) = zrun none (139, 8, [v0, .null], (.null :: st), w) := (zE_ (i := .aload_n 1) (by decide +kernel) _ _ _).trans rfl
theorem e139_8 (ls : List Value) (a : Nat) (x0 : Nat) (st : List Value) (w : zH) (hr : zcat st ≤ 8) : zrun none (139, 8, ls, (.ref x0 :: .ref a :: st), w) = zgd (zis w a 11) (zcl (zrun none (138, 0, [.ref a, .ref x0], [], w)) (fun r => zrun none (139, 11, ls, r.1.toList ++ st, r.2))) := by
  refine (zE_ (i := .invokevirtual 138) (by decide +kernel) _ _ _).trans ?_
  show zres (zinv none 138 139 8 ls (.ref x0 :: .ref a :: st) w) = _
  unfold zinv
  show zres (if zrc none 138 w (.ref a) = true then zcall 138 [.ref a, .ref x0] st 139 8 ls w else none) = _
  by_cases hc : zis w a 11
  · rw [if_pos (zrc_is hc (by decide +kernel)), zgd_pos hc]
    exact zq_call hr (Nat.le_of_ble_eq_true rfl) rfl rfl
  · rw [zgd_neg hc, if_neg (fun q => hc (zrc_of q (by decide +kernel)))]
    rfl
theorem e139_11 (ls st : List Value) (w : zH) : zrun none (139, 11, ls, st, w) = zrun none (139, 12, ls, (.int 2 :: st), w) := (zE_ (i := .iconst 2) (by decide +kernel) _ _ _).trans rfl
theorem e139_12 (ls : List Value) (a b : Int32) (st : List Value) (w : zH) : zrun none (139, 12, ls, (.int b :: .int a :: st), w) = zrun none (139, 13, ls, (.int (a * b) :: st), w) := (zE_ (i := .imul) (by decide +kernel) _ _ _).trans rfl
theorem e139_13 (ls : List Value) (x : Int32) (w : zH) : zrun none (139, 13, ls, [.int x], w) = some (some (.int x), w) := by
  refine (zE_ (i := .ireturn) (by decide +kernel) _ _ _).trans ?_
  show zres (if narrow .int (.int x) = .int x then _ else none) = _
  rw [if_pos (show narrow .int (.int x) = .int x from rfl)]
  rfl
theorem e140_0 (v1 : Value) (x : Nat) (st : List Value) (w : zH) : zrun none (140, 0, [.ref x, v1], st, w) = zrun none (140, 1, [.ref x, v1], (.ref x :: st), w) := (zE_ (i := .aload_n 0) (by decide +kernel) _ _ _).trans rfl
theorem e140_1 (ls st : List Value) (w : zH) : zrun none (140, 1, ls, st, w) = zrun none (140, 3, ls, (.int 13 :: st), w) := (zE_ (i := .bipush 13) (by decide +kernel) _ _ _).trans rfl
theorem e140_3 (ls : List Value) (a : Nat) (x0 : Int32) (st : List Value) (w : zH) (hr : zcat st ≤ 8) : zrun none (140, 3, ls, (.int x0 :: .ref a :: st), w) = zgd (zis w a 11) (zcl (zrun none (135, 0, [.ref a, .int x0], [], w)) (fun r => zrun none (140, 6, ls, r.1.toList ++ st, r.2))) := by
  refine (zE_ (i := .invokevirtual 135) (by decide +kernel) _ _ _).trans ?_
  show zres (zinv none 135 140 3 ls (.int x0 :: .ref a :: st) w) = _
  unfold zinv
  show zres (if zrc none 135 w (.ref a) = true then zcall 135 [.ref a, .int x0] st 140 3 ls w else none) = _
  by_cases hc : zis w a 11
  · rw [if_pos (zrc_is hc (by decide +kernel)), zgd_pos hc]
    exact zq_call hr (Nat.le_of_ble_eq_true rfl) rfl rfl
  · rw [zgd_neg hc, if_neg (fun q => hc (zrc_of q (by decide +kernel)))]
    rfl
theorem e140_6 (v1 : Value) (x : Nat) (st : List Value) (w : zH) : zrun none (140, 6, [.ref x, v1], st, w) = zrun none (140, 7, [.ref x, v1], (.ref x :: st), w) := (zE_ (i := .aload_n 0) (by decide +kernel) _ _ _).trans rfl
theorem e140_7 (v0 : Value) (x : Nat) (st : List Value) (w : zH) : zrun none (140, 7, [v0, .ref x], st, w) = zrun none (140, 8, [v0, .ref x], (.ref x :: st), w) := (zE_ (i := .aload_n 1) (by decide +kernel) _ _ _).trans rfl
theorem e140_7n (v0 : Value) (st : List Value) (w : zH) : zrun none (140, 7, [v0, .null], st, w) = zrun none (140, 8, [v0, .null], (.null :: st), w) := (zE_ (i := .aload_n 1) (by decide +kernel) _ _ _).trans rfl
theorem e140_8 (ls : List Value) (a : Nat) (x0 : Nat) (st : List Value) (w : zH) (hr : zcat st ≤ 8) : zrun none (140, 8, ls, (.ref x0 :: .ref a :: st), w) = zgd (zis w a 11) (zcl (zrun none (137, 0, [.ref a, .ref x0], [], w)) (fun r => zrun none (140, 11, ls, r.1.toList ++ st, r.2))) := by
  refine (zE_ (i := .invokevirtual 137) (by decide +kernel) _ _ _).trans ?_
  show zres (zinv none 137 140 8 ls (.ref x0 :: .ref a :: st) w) = _
  unfold zinv
  show zres (if zrc none 137 w (.ref a) = true then zcall 137 [.ref a, .ref x0] st 140 8 ls w else none) = _
  by_cases hc : zis w a 11
  · rw [if_pos (zrc_is hc (by decide +kernel)), zgd_pos hc]
    exact zq_call hr (Nat.le_of_ble_eq_true rfl) rfl rfl
  · rw [zgd_neg hc, if_neg (fun q => hc (zrc_of q (by decide +kernel)))]
    rfl
theorem e140_11 (ls st : List Value) (w : zH) : zrun none (140, 11, ls, st, w) = zrun none (140, 12, ls, (.int 2 :: st), w) := (zE_ (i := .iconst 2) (by decide +kernel) _ _ _).trans rfl
theorem e140_12 (ls : List Value) (a b : Int32) (st : List Value) (w : zH) (h : ¬ b = 0) : zrun none (140, 12, ls, (.int b :: .int a :: st), w) = zrun none (140, 13, ls, (.int (a / b) :: st), w) := by
  refine (zE_ (i := .idiv) (by decide +kernel) _ _ _).trans ?_
  simp only [zI, if_neg h]
  rfl
theorem e140_13 (ls : List Value) (x : Int32) (w : zH) : zrun none (140, 13, ls, [.int x], w) = some (some (.int x), w) := by
  refine (zE_ (i := .ireturn) (by decide +kernel) _ _ _).trans ?_
  show zres (if narrow .int (.int x) = .int x then _ else none) = _
  rw [if_pos (show narrow .int (.int x) = .int x from rfl)]
  rfl
theorem e141_0 (v1 : Value) (x : Nat) (st : List Value) (w : zH) : zrun none (141, 0, [.ref x, v1], st, w) = zrun none (141, 1, [.ref x, v1], (.ref x :: st), w) := (zE_ (i := .aload_n 0) (by decide +kernel) _ _ _).trans rfl
theorem e141_1 (v0 : Value) (x : Nat) (st : List Value) (w : zH) : zrun none (141, 1, [v0, .ref x], st, w) = zrun none (141, 2, [v0, .ref x], (.ref x :: st), w) := (zE_ (i := .aload_n 1) (by decide +kernel) _ _ _).trans rfl
theorem e141_1n (v0 : Value) (st : List Value) (w : zH) : zrun none (141, 1, [v0, .null], st, w) = zrun none (141, 2, [v0, .null], (.null :: st), w) := (zE_ (i := .aload_n 1) (by decide +kernel) _ _ _).trans rfl
theorem e141_2 (v1 : Value) (x : Nat) (st : List Value) (w : zH) : zrun none (141, 2, [.ref x, v1], st, w) = zrun none (141, 3, [.ref x, v1], (.ref x :: st), w) := (zE_ (i := .aload_n 0) (by decide +kernel) _ _ _).trans rfl
theorem e141_3 (ls : List Value) (a : Nat) (st : List Value) (w : zH) : zrun none (141, 3, ls, (.ref a :: st), w) = zo (zf w a 1116) (fun x => zrun none (141, 6, ls, (x :: st), w)) := (zE_ (i := .getfield 1116) (by decide +kernel) _ _ _).trans zq_getf
theorem e141_6 (ls : List Value) (a : Nat) (x0 : Nat) (x1 : Int32) (st : List Value) (w : zH) (hr : zcat st ≤ 8) : zrun none (141, 6, ls, (.int x1 :: .ref x0 :: .ref a :: st), w) = zgd (zis w a 11) (zcl (zrun none (117, 0, [.ref a, .ref x0, .int x1, zJ, zJ], [], w)) (fun r => zrun none (141, 9, ls, r.1.toList ++ st, r.2))) := by
  refine (zE_ (i := .invokevirtual 117) (by decide +kernel) _ _ _).trans ?_
  show zres (zinv none 117 141 6 ls (.int x1 :: .ref x0 :: .ref a :: st) w) = _
  unfold zinv
  show zres (if zrc none 117 w (.ref a) = true then zcall 117 [.ref a, .ref x0, .int x1] st 141 6 ls w else none) = _
  by_cases hc : zis w a 11
  · rw [if_pos (zrc_is hc (by decide +kernel)), zgd_pos hc]
    exact zq_call hr (Nat.le_of_ble_eq_true rfl) rfl rfl
  · rw [zgd_neg hc, if_neg (fun q => hc (zrc_of q (by decide +kernel)))]
    rfl
theorem e141_9 (ls : List Value) (a : Int32) (st : List Value) (w : zH) : zrun none (141, 9, ls, (.int a :: st), w) = if a = 1 then zrun none (141, 42, ls, st, w) else if a = 2 then zrun none (141, 36, ls, st, w) else if a = 3 then zrun none (141, 48, ls, st, w) else zrun none (141, 54, ls, st, w) := by
  refine (zE_ (i := .tableswitch 45 1 3 #[33, 27, 39]) (by decide +kernel) _ _ _).trans ?_
  by_cases h1001 : a = 1
  · subst h1001
    rfl
  rw [if_neg h1001]
  by_cases h1002 : a = 2
  · subst h1002
    rfl
  rw [if_neg h1002]
  by_cases h1003 : a = 3
  · subst h1003
    rfl
  rw [if_neg h1003]
  have hr : a.toInt < 1 ∨ 3 < a.toInt := by
    by_cases q1 : a.toInt < 1
    · exact Or.inl q1
    by_cases q2 : 3 < a.toInt
    · exact Or.inr q2
    exfalso
    have k1001 := zne32 h1001
    have k1002 := zne32 h1002
    have k1003 := zne32 h1003
    have j1001 : ((1 : Int32)).toInt = 1 := by decide
    rw [j1001] at k1001
    have j1002 : ((2 : Int32)).toInt = 2 := by decide
    rw [j1002] at k1002
    have j1003 : ((3 : Int32)).toInt = 3 := by decide
    rw [j1003] at k1003
    omega
  simp only [zI, if_pos hr]
  rfl
theorem e141_36 (v1 : Value) (x : Nat) (st : List Value) (w : zH) : zrun none (141, 36, [.ref x, v1], st, w) = zrun none (141, 37, [.ref x, v1], (.ref x :: st), w) := (zE_ (i := .aload_n 0) (by decide +kernel) _ _ _).trans rfl
theorem e141_37 (v0 : Value) (x : Nat) (st : List Value) (w : zH) : zrun none (141, 37, [v0, .ref x], st, w) = zrun none (141, 38, [v0, .ref x], (.ref x :: st), w) := (zE_ (i := .aload_n 1) (by decide +kernel) _ _ _).trans rfl
theorem e141_37n (v0 : Value) (st : List Value) (w : zH) : zrun none (141, 37, [v0, .null], st, w) = zrun none (141, 38, [v0, .null], (.null :: st), w) := (zE_ (i := .aload_n 1) (by decide +kernel) _ _ _).trans rfl
theorem e141_38 (ls : List Value) (a : Nat) (x0 : Nat) (st : List Value) (w : zH) (hr : zcat st ≤ 8) : zrun none (141, 38, ls, (.ref x0 :: .ref a :: st), w) = zgd (zis w a 11) (zcl (zrun none (144, 0, [.ref a, .ref x0], [], w)) (fun r => zrun none (141, 41, ls, r.1.toList ++ st, r.2))) := by
  refine (zE_ (i := .invokevirtual 144) (by decide +kernel) _ _ _).trans ?_
  show zres (zinv none 144 141 38 ls (.ref x0 :: .ref a :: st) w) = _
  unfold zinv
  show zres (if zrc none 144 w (.ref a) = true then zcall 144 [.ref a, .ref x0] st 141 38 ls w else none) = _
  by_cases hc : zis w a 11
  · rw [if_pos (zrc_is hc (by decide +kernel)), zgd_pos hc]
    exact zq_call hr (Nat.le_of_ble_eq_true rfl) rfl rfl
  · rw [zgd_neg hc, if_neg (fun q => hc (zrc_of q (by decide +kernel)))]
    rfl
theorem e141_41 (ls : List Value) (x : Int32) (w : zH) : zrun none (141, 41, ls, [.int x], w) = some (some (.int x), w) := by
  refine (zE_ (i := .ireturn) (by decide +kernel) _ _ _).trans ?_
  show zres (if narrow .int (.int x) = .int x then _ else none) = _
  rw [if_pos (show narrow .int (.int x) = .int x from rfl)]
  rfl
theorem e141_42 (v1 : Value) (x : Nat) (st : List Value) (w : zH) : zrun none (141, 42, [.ref x, v1], st, w) = zrun none (141, 43, [.ref x, v1], (.ref x :: st), w) := (zE_ (i := .aload_n 0) (by decide +kernel) _ _ _).trans rfl
theorem e141_43 (v0 : Value) (x : Nat) (st : List Value) (w : zH) : zrun none (141, 43, [v0, .ref x], st, w) = zrun none (141, 44, [v0, .ref x], (.ref x :: st), w) := (zE_ (i := .aload_n 1) (by decide +kernel) _ _ _).trans rfl
theorem e141_43n (v0 : Value) (st : List Value) (w : zH) : zrun none (141, 43, [v0, .null], st, w) = zrun none (141, 44, [v0, .null], (.null :: st), w) := (zE_ (i := .aload_n 1) (by decide +kernel) _ _ _).trans rfl
theorem e141_44 (ls : List Value) (a : Nat) (x0 : Nat) (st : List Value) (w : zH) (hr : zcat st ≤ 8) : zrun none (141, 44, ls, (.ref x0 :: .ref a :: st), w) = zgd (zis w a 11) (zcl (zrun none (143, 0, [.ref a, .ref x0], [], w)) (fun r => zrun none (141, 47, ls, r.1.toList ++ st, r.2))) := by
  refine (zE_ (i := .invokevirtual 143) (by decide +kernel) _ _ _).trans ?_
  show zres (zinv none 143 141 44 ls (.ref x0 :: .ref a :: st) w) = _
  unfold zinv
  show zres (if zrc none 143 w (.ref a) = true then zcall 143 [.ref a, .ref x0] st 141 44 ls w else none) = _
  by_cases hc : zis w a 11
  · rw [if_pos (zrc_is hc (by decide +kernel)), zgd_pos hc]
    exact zq_call hr (Nat.le_of_ble_eq_true rfl) rfl rfl
  · rw [zgd_neg hc, if_neg (fun q => hc (zrc_of q (by decide +kernel)))]
    rfl
theorem e141_47 (ls : List Value) (x : Int32) (w : zH) : zrun none (141, 47, ls, [.int x], w) = some (some (.int x), w) := by
  refine (zE_ (i := .ireturn) (by decide +kernel) _ _ _).trans ?_
  show zres (if narrow .int (.int x) = .int x then _ else none) = _
  rw [if_pos (show narrow .int (.int x) = .int x from rfl)]
  rfl
theorem e141_48 (v1 : Value) (x : Nat) (st : List Value) (w : zH) : zrun none (141, 48, [.ref x, v1], st, w) = zrun none (141, 49, [.ref x, v1], (.ref x :: st), w) := (zE_ (i := .aload_n 0) (by decide +kernel) _ _ _).trans rfl
theorem e141_49 (v0 : Value) (x : Nat) (st : List Value) (w : zH) : zrun none (141, 49, [v0, .ref x], st, w) = zrun none (141, 50, [v0, .ref x], (.ref x :: st), w) := (zE_ (i := .aload_n 1) (by decide +kernel) _ _ _).trans rfl
theorem e141_49n (v0 : Value) (st : List Value) (w : zH) : zrun none (141, 49, [v0, .null], st, w) = zrun none (141, 50, [v0, .null], (.null :: st), w) := (zE_ (i := .aload_n 1) (by decide +kernel) _ _ _).trans rfl
theorem e141_50 (ls : List Value) (a : Nat) (x0 : Nat) (st : List Value) (w : zH) (hr : zcat st ≤ 8) : zrun none (141, 50, ls, (.ref x0 :: .ref a :: st), w) = zgd (zis w a 11) (zcl (zrun none (145, 0, [.ref a, .ref x0], [], w)) (fun r => zrun none (141, 53, ls, r.1.toList ++ st, r.2))) := by
  refine (zE_ (i := .invokevirtual 145) (by decide +kernel) _ _ _).trans ?_
  show zres (zinv none 145 141 50 ls (.ref x0 :: .ref a :: st) w) = _
  unfold zinv
  show zres (if zrc none 145 w (.ref a) = true then zcall 145 [.ref a, .ref x0] st 141 50 ls w else none) = _
  by_cases hc : zis w a 11
  · rw [if_pos (zrc_is hc (by decide +kernel)), zgd_pos hc]
    exact zq_call hr (Nat.le_of_ble_eq_true rfl) rfl rfl
  · rw [zgd_neg hc, if_neg (fun q => hc (zrc_of q (by decide +kernel)))]
    rfl
theorem e141_53 (ls : List Value) (x : Int32) (w : zH) : zrun none (141, 53, ls, [.int x], w) = some (some (.int x), w) := by
  refine (zE_ (i := .ireturn) (by decide +kernel) _ _ _).trans ?_
  show zres (if narrow .int (.int x) = .int x then _ else none) = _
  rw [if_pos (show narrow .int (.int x) = .int x from rfl)]
  rfl
theorem e141_54 (v1 : Value) (x : Nat) (st : List Value) (w : zH) : zrun none (141, 54, [.ref x, v1], st, w) = zrun none (141, 55, [.ref x, v1], (.ref x :: st), w) := (zE_ (i := .aload_n 0) (by decide +kernel) _ _ _).trans rfl
theorem e141_55 (v0 : Value) (x : Nat) (st : List Value) (w : zH) : zrun none (141, 55, [v0, .ref x], st, w) = zrun none (141, 56, [v0, .ref x], (.ref x :: st), w) := (zE_ (i := .aload_n 1) (by decide +kernel) _ _ _).trans rfl
theorem e141_55n (v0 : Value) (st : List Value) (w : zH) : zrun none (141, 55, [v0, .null], st, w) = zrun none (141, 56, [v0, .null], (.null :: st), w) := (zE_ (i := .aload_n 1) (by decide +kernel) _ _ _).trans rfl
theorem e141_56 (ls : List Value) (a : Nat) (x0 : Nat) (st : List Value) (w : zH) (hr : zcat st ≤ 8) : zrun none (141, 56, ls, (.ref x0 :: .ref a :: st), w) = zgd (zis w a 11) (zcl (zrun none (142, 0, [.ref a, .ref x0], [], w)) (fun r => zrun none (141, 59, ls, r.1.toList ++ st, r.2))) := by
  refine (zE_ (i := .invokevirtual 142) (by decide +kernel) _ _ _).trans ?_
  show zres (zinv none 142 141 56 ls (.ref x0 :: .ref a :: st) w) = _
  unfold zinv
  show zres (if zrc none 142 w (.ref a) = true then zcall 142 [.ref a, .ref x0] st 141 56 ls w else none) = _
  by_cases hc : zis w a 11
  · rw [if_pos (zrc_is hc (by decide +kernel)), zgd_pos hc]
    exact zq_call hr (Nat.le_of_ble_eq_true rfl) rfl rfl
  · rw [zgd_neg hc, if_neg (fun q => hc (zrc_of q (by decide +kernel)))]
    rfl
theorem e141_59 (ls : List Value) (x : Int32) (w : zH) : zrun none (141, 59, ls, [.int x], w) = some (some (.int x), w) := by
  refine (zE_ (i := .ireturn) (by decide +kernel) _ _ _).trans ?_
  show zres (if narrow .int (.int x) = .int x then _ else none) = _
  rw [if_pos (show narrow .int (.int x) = .int x from rfl)]
  rfl
theorem e142_0 (v1 : Value) (x : Nat) (st : List Value) (w : zH) : zrun none (142, 0, [.ref x, v1], st, w) = zrun none (142, 1, [.ref x, v1], (.ref x :: st), w) := (zE_ (i := .aload_n 0) (by decide +kernel) _ _ _).trans rfl
theorem e142_1 (ls st : List Value) (w : zH) : zrun none (142, 1, ls, st, w) = zrun none (142, 3, ls, (.int 20 :: st), w) := (zE_ (i := .bipush 20) (by decide +kernel) _ _ _).trans rfl
theorem e142_3 (ls : List Value) (a : Nat) (x0 : Int32) (st : List Value) (w : zH) (hr : zcat st ≤ 8) : zrun none (142, 3, ls, (.int x0 :: .ref a :: st), w) = zgd (zis w a 11) (zcl (zrun none (135, 0, [.ref a, .int x0], [], w)) (fun r => zrun none (142, 6, ls, r.1.toList ++ st, r.2))) := by
  refine (zE_ (i := .invokevirtual 135) (by decide +kernel) _ _ _).trans ?_
  show zres (zinv none 135 142 3 ls (.int x0 :: .ref a :: st) w) = _
  unfold zinv
  show zres (if zrc none 135 w (.ref a) = true then zcall 135 [.ref a, .int x0] st 142 3 ls w else none) = _
  by_cases hc : zis w a 11
  · rw [if_pos (zrc_is hc (by decide +kernel)), zgd_pos hc]
    exact zq_call hr (Nat.le_of_ble_eq_true rfl) rfl rfl
  · rw [zgd_neg hc, if_neg (fun q => hc (zrc_of q (by decide +kernel)))]
    rfl
theorem e142_6 (v0 : Value) (x : Nat) (st : List Value) (w : zH) : zrun none (142, 6, [v0, .ref x], st, w) = zrun none (142, 7, [v0, .ref x], (.ref x :: st), w) := (zE_ (i := .aload_n 1) (by decide +kernel) _ _ _).trans rfl
theorem e142_6n (v0 : Value) (st : List Value) (w : zH) : zrun none (142, 6, [v0, .null], st, w) = zrun none (142, 7, [v0, .null], (.null :: st), w) := (zE_ (i := .aload_n 1) (by decide +kernel) _ _ _).trans rfl
theorem e142_7 (ls : List Value) (a : Nat) (st : List Value) (w : zH) : zrun none (142, 7, ls, (.ref a :: st), w) = zo (zf w a 701) (fun x => zrun none (142, 10, ls, (x :: st), w)) := (zE_ (i := .getfield 701) (by decide +kernel) _ _ _).trans zq_getf
theorem e142_10 (ls : List Value) (x : Int32) (w : zH) : zrun none (142, 10, ls, [.int x], w) = some (some (.int x), w) := by
  refine (zE_ (i := .ireturn) (by decide +kernel) _ _ _).trans ?_
  show zres (if narrow .int (.int x) = .int x then _ else none) = _
  rw [if_pos (show narrow .int (.int x) = .int x from rfl)]
  rfl
theorem e143_0 (v1 : Value) (x : Nat) (st : List Value) (w : zH) : zrun none (143, 0, [.ref x, v1], st, w) = zrun none (143, 1, [.ref x, v1], (.ref x :: st), w) := (zE_ (i := .aload_n 0) (by decide +kernel) _ _ _).trans rfl
theorem e143_1 (ls st : List Value) (w : zH) : zrun none (143, 1, ls, st, w) = zrun none (143, 3, ls, (.int 21 :: st), w) := (zE_ (i := .bipush 21) (by decide +kernel) _ _ _).trans rfl
theorem e143_3 (ls : List Value) (a : Nat) (x0 : Int32) (st : List Value) (w : zH) (hr : zcat st ≤ 8) : zrun none (143, 3, ls, (.int x0 :: .ref a :: st), w) = zgd (zis w a 11) (zcl (zrun none (135, 0, [.ref a, .int x0], [], w)) (fun r => zrun none (143, 6, ls, r.1.toList ++ st, r.2))) := by
  refine (zE_ (i := .invokevirtual 135) (by decide +kernel) _ _ _).trans ?_
  show zres (zinv none 135 143 3 ls (.int x0 :: .ref a :: st) w) = _
  unfold zinv
  show zres (if zrc none 135 w (.ref a) = true then zcall 135 [.ref a, .int x0] st 143 3 ls w else none) = _
  by_cases hc : zis w a 11
  · rw [if_pos (zrc_is hc (by decide +kernel)), zgd_pos hc]
    exact zq_call hr (Nat.le_of_ble_eq_true rfl) rfl rfl
  · rw [zgd_neg hc, if_neg (fun q => hc (zrc_of q (by decide +kernel)))]
    rfl
theorem e143_6 (v1 : Value) (x : Nat) (st : List Value) (w : zH) : zrun none (143, 6, [.ref x, v1], st, w) = zrun none (143, 7, [.ref x, v1], (.ref x :: st), w) := (zE_ (i := .aload_n 0) (by decide +kernel) _ _ _).trans rfl
theorem e143_7 (v0 : Value) (x : Nat) (st : List Value) (w : zH) : zrun none (143, 7, [v0, .ref x], st, w) = zrun none (143, 8, [v0, .ref x], (.ref x :: st), w) := (zE_ (i := .aload_n 1) (by decide +kernel) _ _ _).trans rfl
theorem e143_7n (v0 : Value) (st : List Value) (w : zH) : zrun none (143, 7, [v0, .null], st, w) = zrun none (143, 8, [v0, .null], (.null :: st), w) := (zE_ (i := .aload_n 1) (by decide +kernel) _ _ _).trans rfl
theorem e143_8 (ls : List Value) (a : Nat) (x0 : Nat) (st : List Value) (w : zH) (hr : zcat st ≤ 8) : zrun none (143, 8, ls, (.ref x0 :: .ref a :: st), w) = zgd (zis w a 11) (zcl (zrun none (142, 0, [.ref a, .ref x0], [], w)) (fun r => zrun none (143, 11, ls, r.1.toList ++ st, r.2))) := by
  refine (zE_ (i := .invokevirtual 142) (by decide +kernel) _ _ _).trans ?_
  show zres (zinv none 142 143 8 ls (.ref x0 :: .ref a :: st) w) = _
  unfold zinv
  show zres (if zrc none 142 w (.ref a) = true then zcall 142 [.ref a, .ref x0] st 143 8 ls w else none) = _
  by_cases hc : zis w a 11
  · rw [if_pos (zrc_is hc (by decide +kernel)), zgd_pos hc]
    exact zq_call hr (Nat.le_of_ble_eq_true rfl) rfl rfl
  · rw [zgd_neg hc, if_neg (fun q => hc (zrc_of q (by decide +kernel)))]
    rfl
theorem e143_11 (ls st : List Value) (w : zH) : zrun none (143, 11, ls, st, w) = zrun none (143, 13, ls, (.int 10 :: st), w) := (zE_ (i := .bipush 10) (by decide +kernel) _ _ _).trans rfl
theorem e143_13 (v1 : Value) (x : Nat) (st : List Value) (w : zH) : zrun none (143, 13, [.ref x, v1], st, w) = zrun none (143, 14, [.ref x, v1], (.ref x :: st), w) := (zE_ (i := .aload_n 0) (by decide +kernel) _ _ _).trans rfl
theorem e143_14 (v0 : Value) (x : Nat) (st : List Value) (w : zH) : zrun none (143, 14, [v0, .ref x], st, w) = zrun none (143, 15, [v0, .ref x], (.ref x :: st), w) := (zE_ (i := .aload_n 1) (by decide +kernel) _ _ _).trans rfl
theorem e143_14n (v0 : Value) (st : List Value) (w : zH) : zrun none (143, 14, [v0, .null], st, w) = zrun none (143, 15, [v0, .null], (.null :: st), w) := (zE_ (i := .aload_n 1) (by decide +kernel) _ _ _).trans rfl
theorem e143_15 (v1 : Value) (x : Nat) (st : List Value) (w : zH) : zrun none (143, 15, [.ref x, v1], st, w) = zrun none (143, 16, [.ref x, v1], (.ref x :: st), w) := (zE_ (i := .aload_n 0) (by decide +kernel) _ _ _).trans rfl
theorem e143_16 (ls : List Value) (a : Nat) (st : List Value) (w : zH) : zrun none (143, 16, ls, (.ref a :: st), w) = zo (zf w a 1116) (fun x => zrun none (143, 19, ls, (x :: st), w)) := (zE_ (i := .getfield 1116) (by decide +kernel) _ _ _).trans zq_getf
theorem e143_19 (ls : List Value) (a : Nat) (x0 : Nat) (x1 : Int32) (st : List Value) (w : zH) (hr : zcat st ≤ 8) : zrun none (143, 19, ls, (.int x1 :: .ref x0 :: .ref a :: st), w) = zgd (zis w a 11) (zcl (zrun none (116, 0, [.ref a, .ref x0, .int x1], [], w)) (fun r => zrun none (143, 22, ls, r.1.toList ++ st, r.2))) := by
  refine (zE_ (i := .invokevirtual 116) (by decide +kernel) _ _ _).trans ?_
  show zres (zinv none 116 143 19 ls (.int x1 :: .ref x0 :: .ref a :: st) w) = _
  unfold zinv
  show zres (if zrc none 116 w (.ref a) = true then zcall 116 [.ref a, .ref x0, .int x1] st 143 19 ls w else none) = _
  by_cases hc : zis w a 11
  · rw [if_pos (zrc_is hc (by decide +kernel)), zgd_pos hc]
    exact zq_call hr (Nat.le_of_ble_eq_true rfl) rfl rfl
  · rw [zgd_neg hc, if_neg (fun q => hc (zrc_of q (by decide +kernel)))]
    rfl
theorem e143_22 (ls : List Value) (a b : Int32) (st : List Value) (w : zH) : zrun none (143, 22, ls, (.int b :: .int a :: st), w) = zrun none (143, 23, ls, (.int (a * b) :: st), w) := (zE_ (i := .imul) (by decide +kernel) _ _ _).trans rfl
theorem e143_23 (ls : List Value) (a b : Int32) (st : List Value) (w : zH) : zrun none (143, 23, ls, (.int b :: .int a :: st), w) = zrun none (143, 24, ls, (.int (a + b) :: st), w) := (zE_ (i := .iadd) (by decide +kernel) _ _ _).trans rfl
theorem e143_24 (ls : List Value) (x : Int32) (w : zH) : zrun none (143, 24, ls, [.int x], w) = some (some (.int x), w) := by
  refine (zE_ (i := .ireturn) (by decide +kernel) _ _ _).trans ?_
  show zres (if narrow .int (.int x) = .int x then _ else none) = _
  rw [if_pos (show narrow .int (.int x) = .int x from rfl)]
  rfl
theorem e144_0 (v1 : Value) (x : Nat) (st : List Value) (w : zH) : zrun none (144, 0, [.ref x, v1], st, w) = zrun none (144, 1, [.ref x, v1], (.ref x :: st), w) := (zE_ (i := .aload_n 0) (by decide +kernel) _ _ _).trans rfl
theorem e144_1 (ls st : List Value) (w : zH) : zrun none (144, 1, ls, st, w) = zrun none (144, 3, ls, (.int 22 :: st), w) := (zE_ (i := .bipush 22) (by decide +kernel) _ _ _).trans rfl
theorem e144_3 (ls : List Value) (a : Nat) (x0 : Int32) (st : List Value) (w : zH) (hr : zcat st ≤ 8) : zrun none (144, 3, ls, (.int x0 :: .ref a :: st), w) = zgd (zis w a 11) (zcl (zrun none (135, 0, [.ref a, .int x0], [], w)) (fun r => zrun none (144, 6, ls, r.1.toList ++ st, r.2))) := by
  refine (zE_ (i := .invokevirtual 135) (by decide +kernel) _ _ _).trans ?_
  show zres (zinv none 135 144 3 ls (.int x0 :: .ref a :: st) w) = _
  unfold zinv
  show zres (if zrc none 135 w (.ref a) = true then zcall 135 [.ref a, .int x0] st 144 3 ls w else none) = _
  by_cases hc : zis w a 11
  · rw [if_pos (zrc_is hc (by decide +kernel)), zgd_pos hc]
    exact zq_call hr (Nat.le_of_ble_eq_true rfl) rfl rfl
  · rw [zgd_neg hc, if_neg (fun q => hc (zrc_of q (by decide +kernel)))]
    rfl
theorem e144_6 (v1 : Value) (x : Nat) (st : List Value) (w : zH) : zrun none (144, 6, [.ref x, v1], st, w) = zrun none (144, 7, [.ref x, v1], (.ref x :: st), w) := (zE_ (i := .aload_n 0) (by decide +kernel) _ _ _).trans rfl
theorem e144_7 (v0 : Value) (x : Nat) (st : List Value) (w : zH) : zrun none (144, 7, [v0, .ref x], st, w) = zrun none (144, 8, [v0, .ref x], (.ref x :: st), w) := (zE_ (i := .aload_n 1) (by decide +kernel) _ _ _).trans rfl
theorem e144_7n (v0 : Value) (st : List Value) (w : zH) : zrun none (144, 7, [v0, .null], st, w) = zrun none (144, 8, [v0, .null], (.null :: st), w) := (zE_ (i := .aload_n 1) (by decide +kernel) _ _ _).trans rfl
theorem e144_8 (ls : List Value) (a : Nat) (x0 : Nat) (st : List Value) (w : zH) (hr : zcat st ≤ 8) : zrun none (144, 8, ls, (.ref x0 :: .ref a :: st), w) = zgd (zis w a 11) (zcl (zrun none (143, 0, [.ref a, .ref x0], [], w)) (fun r => zrun none (144, 11, ls, r.1.toList ++ st, r.2))) := by
  refine (zE_ (i := .invokevirtual 143) (by decide +kernel) _ _ _).trans ?_
  show zres (zinv none 143 144 8 ls (.ref x0 :: .ref a :: st) w) = _
  unfold zinv
  show zres (if zrc none 143 w (.ref a) = true then zcall 143 [.ref a, .ref x0] st 144 8 ls w else none) = _
  by_cases hc : zis w a 11
  · rw [if_pos (zrc_is hc (by decide +kernel)), zgd_pos hc]
    exact zq_call hr (Nat.le_of_ble_eq_true rfl) rfl rfl
  · rw [zgd_neg hc, if_neg (fun q => hc (zrc_of q (by decide +kernel)))]
    rfl
theorem e144_11 (v1 : Value) (x : Nat) (st : List Value) (w : zH) : zrun none (144, 11, [.ref x, v1], st, w) = zrun none (144, 12, [.ref x, v1], (.ref x :: st), w) := (zE_ (i := .aload_n 0) (by decide +kernel) _ _ _).trans rfl
theorem e144_12 (v0 : Value) (x : Nat) (st : List Value) (w : zH) : zrun none (144, 12, [v0, .ref x], st, w) = zrun none (144, 13, [v0, .ref x], (.ref x :: st), w) := (zE_ (i := .aload_n 1) (by decide +kernel) _ _ _).trans rfl
theorem e144_12n (v0 : Value) (st : List Value) (w : zH) : zrun none (144, 12, [v0, .null], st, w) = zrun none (144, 13, [v0, .null], (.null :: st), w) := (zE_ (i := .aload_n 1) (by decide +kernel) _ _ _).trans rfl
theorem e144_13 (ls : List Value) (a : Nat) (x0 : Nat) (st : List Value) (w : zH) (hr : zcat st ≤ 8) : zrun none (144, 13, ls, (.ref x0 :: .ref a :: st), w) = zgd (zis w a 11) (zcl (zrun none (136, 0, [.ref a, .ref x0], [], w)) (fun r => zrun none (144, 16, ls, r.1.toList ++ st, r.2))) := by
  refine (zE_ (i := .invokevirtual 136) (by decide +kernel) _ _ _).trans ?_
  show zres (zinv none 136 144 13 ls (.ref x0 :: .ref a :: st) w) = _
  unfold zinv
  show zres (if zrc none 136 w (.ref a) = true then zcall 136 [.ref a, .ref x0] st 144 13 ls w else none) = _
  by_cases hc : zis w a 11
  · rw [if_pos (zrc_is hc (by decide +kernel)), zgd_pos hc]
    exact zq_call hr (Nat.le_of_ble_eq_true rfl) rfl rfl
  · rw [zgd_neg hc, if_neg (fun q => hc (zrc_of q (by decide +kernel)))]
    rfl
theorem e144_16 (ls : List Value) (a b : Int32) (st : List Value) (w : zH) : zrun none (144, 16, ls, (.int b :: .int a :: st), w) = zrun none (144, 17, ls, (.int (a + b) :: st), w) := (zE_ (i := .iadd) (by decide +kernel) _ _ _).trans rfl
theorem e144_17 (ls : List Value) (x : Int32) (w : zH) : zrun none (144, 17, ls, [.int x], w) = some (some (.int x), w) := by
  refine (zE_ (i := .ireturn) (by decide +kernel) _ _ _).trans ?_
  show zres (if narrow .int (.int x) = .int x then _ else none) = _
  rw [if_pos (show narrow .int (.int x) = .int x from rfl)]
  rfl
theorem e145_0 (v1 : Value) (x : Nat) (st : List Value) (w : zH) : zrun none (145, 0, [.ref x, v1], st, w) = zrun none (145, 1, [.ref x, v1], (.ref x :: st), w) := (zE_ (i := .aload_n 0) (by decide +kernel) _ _ _).trans rfl
theorem e145_1 (ls st : List Value) (w : zH) : zrun none (145, 1, ls, st, w) = zrun none (145, 3, ls, (.int 23 :: st), w) := (zE_ (i := .bipush 23) (by decide +kernel) _ _ _).trans rfl
theorem e145_3 (ls : List Value) (a : Nat) (x0 : Int32) (st : List Value) (w : zH) (hr : zcat st ≤ 8) : zrun none (145, 3, ls, (.int x0 :: .ref a :: st), w) = zgd (zis w a 11) (zcl (zrun none (135, 0, [.ref a, .int x0], [], w)) (fun r => zrun none (145, 6, ls, r.1.toList ++ st, r.2))) := by
  refine (zE_ (i := .invokevirtual 135) (by decide +kernel) _ _ _).trans ?_
  show zres (zinv none 135 145 3 ls (.int x0 :: .ref a :: st) w) = _
  unfold zinv
  show zres (if zrc none 135 w (.ref a) = true then zcall 135 [.ref a, .int x0] st 145 3 ls w else none) = _
  by_cases hc : zis w a 11
  · rw [if_pos (zrc_is hc (by decide +kernel)), zgd_pos hc]
    exact zq_call hr (Nat.le_of_ble_eq_true rfl) rfl rfl
  · rw [zgd_neg hc, if_neg (fun q => hc (zrc_of q (by decide +kernel)))]
    rfl
theorem e145_6 (v1 : Value) (x : Nat) (st : List Value) (w : zH) : zrun none (145, 6, [.ref x, v1], st, w) = zrun none (145, 7, [.ref x, v1], (.ref x :: st), w) := (zE_ (i := .aload_n 0) (by decide +kernel) _ _ _).trans rfl
theorem e145_7 (v0 : Value) (x : Nat) (st : List Value) (w : zH) : zrun none (145, 7, [v0, .ref x], st, w) = zrun none (145, 8, [v0, .ref x], (.ref x :: st), w) := (zE_ (i := .aload_n 1) (by decide +kernel) _ _ _).trans rfl
theorem e145_7n (v0 : Value) (st : List Value) (w : zH) : zrun none (145, 7, [v0, .null], st, w) = zrun none (145, 8, [v0, .null], (.null :: st), w) := (zE_ (i := .aload_n 1) (by decide +kernel) _ _ _).trans rfl
theorem e145_8 (ls : List Value) (a : Nat) (x0 : Nat) (st : List Value) (w : zH) (hr : zcat st ≤ 8) : zrun none (145, 8, ls, (.ref x0 :: .ref a :: st), w) = zgd (zis w a 11) (zcl (zrun none (142, 0, [.ref a, .ref x0], [], w)) (fun r => zrun none (145, 11, ls, r.1.toList ++ st, r.2))) := by
  refine (zE_ (i := .invokevirtual 142) (by decide +kernel) _ _ _).trans ?_
  show zres (zinv none 142 145 8 ls (.ref x0 :: .ref a :: st) w) = _
  unfold zinv
  show zres (if zrc none 142 w (.ref a) = true then zcall 142 [.ref a, .ref x0] st 145 8 ls w else none) = _
  by_cases hc : zis w a 11
  · rw [if_pos (zrc_is hc (by decide +kernel)), zgd_pos hc]
    exact zq_call hr (Nat.le_of_ble_eq_true rfl) rfl rfl
  · rw [zgd_neg hc, if_neg (fun q => hc (zrc_of q (by decide +kernel)))]
    rfl
theorem e145_11 (v1 : Value) (x : Nat) (st : List Value) (w : zH) : zrun none (145, 11, [.ref x, v1], st, w) = zrun none (145, 12, [.ref x, v1], (.ref x :: st), w) := (zE_ (i := .aload_n 0) (by decide +kernel) _ _ _).trans rfl
theorem e145_12 (v0 : Value) (x : Nat) (st : List Value) (w : zH) : zrun none (145, 12, [v0, .ref x], st, w) = zrun none (145, 13, [v0, .ref x], (.ref x :: st), w) := (zE_ (i := .aload_n 1) (by decide +kernel) _ _ _).trans rfl
theorem e145_12n (v0 : Value) (st : List Value) (w : zH) : zrun none (145, 12, [v0, .null], st, w) = zrun none (145, 13, [v0, .null], (.null :: st), w) := (zE_ (i := .aload_n 1) (by decide +kernel) _ _ _).trans rfl
theorem e145_13 (ls : List Value) (a : Nat) (x0 : Nat) (st : List Value) (w : zH) (hr : zcat st ≤ 8) : zrun none (145, 13, ls, (.ref x0 :: .ref a :: st), w) = zgd (zis w a 11) (zcl (zrun none (136, 0, [.ref a, .ref x0], [], w)) (fun r => zrun none (145, 16, ls, r.1.toList ++ st, r.2))) := by
  refine (zE_ (i := .invokevirtual 136) (by decide +kernel) _ _ _).trans ?_
  show zres (zinv none 136 145 13 ls (.ref x0 :: .ref a :: st) w) = _
  unfold zinv
  show zres (if zrc none 136 w (.ref a) = true then zcall 136 [.ref a, .ref x0] st 145 13 ls w else none) = _
  by_cases hc : zis w a 11
  · rw [if_pos (zrc_is hc (by decide +kernel)), zgd_pos hc]
    exact zq_call hr (Nat.le_of_ble_eq_true rfl) rfl rfl
  · rw [zgd_neg hc, if_neg (fun q => hc (zrc_of q (by decide +kernel)))]
    rfl
theorem e145_16 (ls : List Value) (a b : Int32) (st : List Value) (w : zH) : zrun none (145, 16, ls, (.int b :: .int a :: st), w) = zrun none (145, 17, ls, (.int (a + b) :: st), w) := (zE_ (i := .iadd) (by decide +kernel) _ _ _).trans rfl
theorem e145_17 (ls : List Value) (x : Int32) (w : zH) : zrun none (145, 17, ls, [.int x], w) = some (some (.int x), w) := by
  refine (zE_ (i := .ireturn) (by decide +kernel) _ _ _).trans ?_
  show zres (if narrow .int (.int x) = .int x then _ else none) = _
  rw [if_pos (show narrow .int (.int x) = .int x from rfl)]
  rfl
