/-! THE INVARIANT: what X holds and what the model holds, part by part (gen_44.py writes this). A part reads few cells: it stays where these stay. -/
/-- two heaps alike for a part: the listed ints, arrays, reference arrays, and all that is made later -/
def zSam (w w' : zH) (ints : List (Nat × Nat)) (arrs : List Nat) : Prop := (∀ q ∈ ints, gi w' q.1 q.2 = gi w q.1 q.2) ∧ (∀ b ∈ arrs, w'[b]? = w[b]?) ∧ (∀ a : Nat, 65 ≤ a → a < w.length → w'[a]? = w[a]?) ∧ w.length ≤ w'.length
theorem zis_lt {w : zH} {a k : Nat} (h : zis w a k) (ha : a < zX) : a < w.length := by
  obtain ⟨vs, h⟩ := h
  unfold zr at h
  rw [if_pos ha] at h
  exact (List.getElem?_eq_some_iff.mp h).1
theorem zSam_rfl {w : zH} {ints : List (Nat × Nat)} {arrs : List Nat} : zSam w w ints arrs := ⟨fun _ _ => rfl, fun _ _ => rfl, fun _ _ _ => rfl, Nat.le_refl _⟩
theorem zSam_pf {w w1 : zH} {a n : Nat} {v : Value} {ints : List (Nat × Nat)} {arrs : List Nat} (h : zSam w w1 ints arrs) (ha : a < 65) (h1 : (ints.all fun q => decide (a ≠ q.1 ∨ n % 100 ≠ q.2 % 100)) = true) (h2 : (arrs.all fun b => decide (a ≠ b)) = true) : zSam w (zpf w1 a n v) ints arrs := by
  refine ⟨fun q hq => ?_, fun b hb => ?_, fun b hb hl => ?_, by rw [zpf_len]; exact h.2.2.2⟩
  · rw [← h.1 q hq]
    have := of_decide_eq_true (List.all_eq_true.mp h1 q hq)
    by_cases e : a = q.1
    · subst e
      rcases this with h | h
      · exact absurd rfl h
      · exact gi_pf2 (Nat.lt_trans ha z65) h
    · exact gi_pf1 e
  · rw [← h.2.1 b hb]
    exact zpf_get_ne (of_decide_eq_true (List.all_eq_true.mp h2 b hb))
  · rw [← h.2.2.1 b hb hl]
    exact zpf_get_ne (by omega)
theorem zSam_as {w w1 : zH} {a : Nat} {j : Int32} {v : Value} {ints : List (Nat × Nat)} {arrs : List Nat} (h : zSam w w1 ints arrs) (ha : a < 65) (h1 : (ints.all fun q => decide (a ≠ q.1)) = true) (h2 : (arrs.all fun b => decide (a ≠ b)) = true) : zSam w (zas w1 a j v) ints arrs := by
  refine ⟨fun q hq => ?_, fun b hb => ?_, fun b hb hl => ?_, by rw [zas_len]; exact h.2.2.2⟩
  · rw [← h.1 q hq]
    exact gi_as1 (of_decide_eq_true (List.all_eq_true.mp h1 q hq))
  · rw [← h.2.1 b hb]
    exact zas_get_ne (of_decide_eq_true (List.all_eq_true.mp h2 b hb))
  · rw [← h.2.2.1 b hb hl]
    exact zas_get_ne (by omega)
theorem zSam_push {w w1 : zH} {c : Nat × List Value} {ints : List (Nat × Nat)} {arrs : List Nat} (h : zSam w w1 ints arrs) (hw : Sh w) (h1 : (ints.all fun q => decide (q.1 < 65)) = true) (h2 : (arrs.all fun b => decide (b < 65)) = true) : zSam w (w1 ++ [c]) ints arrs := by
  have hl := hw.len
  have hl2 := h.2.2.2
  refine ⟨fun q hq => ?_, fun b hb => ?_, fun b hb hb2 => ?_, by rw [List.length_append]; omega⟩
  · rw [← h.1 q hq]
    have := of_decide_eq_true (List.all_eq_true.mp h1 q hq)
    exact gi_eq (List.getElem?_append_left (by omega)) _
  · rw [← h.2.1 b hb]
    have := of_decide_eq_true (List.all_eq_true.mp h2 b hb)
    exact List.getElem?_append_left (by omega)
  · rw [← h.2.2.1 b hb hb2]
    exact List.getElem?_append_left (by omega)
def IS (w : zH) : Prop := gi w 0 1119 = gi w 35 1201
abbrev IS_i : List (Nat × Nat) := [(0, 1119), (35, 1201)]
abbrev IS_a : List Nat := []
theorem IS_sam {w w' : zH} (h : IS w) (hs : zSam w w' IS_i IS_a) : IS w' := by
  obtain ⟨s1, s2, s3, -⟩ := hs
  have g0_1119 : gi w' 0 1119 = gi w 0 1119 := s1 (0, 1119) (by decide)
  have g35_1201 : gi w' 35 1201 = gi w 35 1201 := s1 (35, 1201) (by decide)
  unfold IS at h ⊢
  simpa only [g0_1119, g35_1201] using h
def IH (w : zH) : Prop := gi w 2 302 = gi w 35 1205 ∧ 0 ≤ gi w 35 1205 ∧ gi w 35 1205 ≤ 6
abbrev IH_i : List (Nat × Nat) := [(2, 302), (35, 1205)]
abbrev IH_a : List Nat := []
theorem IH_sam {w w' : zH} (h : IH w) (hs : zSam w w' IH_i IH_a) : IH w' := by
  obtain ⟨s1, s2, s3, -⟩ := hs
  have g2_302 : gi w' 2 302 = gi w 2 302 := s1 (2, 302) (by decide)
  have g35_1205 : gi w' 35 1205 = gi w 35 1205 := s1 (35, 1205) (by decide)
  unfold IH at h ⊢
  simpa only [g2_302, g35_1205] using h
def IL (w : zH) : Prop := ∃ n : Nat, n ≤ 30 ∧ gi w 2 301 = nI n ∧ gi w 35 1206 = nI n ∧ ∀ i : Nat, i < n → (0 ≤ ga w 41 i ∧ 0 ≤ ga w 40 i ∧ ga w 40 i ≤ 3) ∧ ∃ a : Nat, 65 ≤ a ∧ a < zX ∧ gr w 3 i = .ref a ∧ zis w a 5 ∧ zf w a 500 = some (.int (ga w 39 i)) ∧ zf w a 501 = some (.int (ga w 40 i)) ∧ zf w a 502 = some (.int (ga w 41 i)) ∧ zf w a 503 = some (.int (ga w 42 i))
abbrev IL_i : List (Nat × Nat) := [(2, 301), (35, 1206)]
abbrev IL_a : List Nat := [39, 40, 41, 42, 3]
theorem IL_sam {w w' : zH} (h : IL w) (hs : zSam w w' IL_i IL_a) : IL w' := by
  obtain ⟨s1, s2, s3, -⟩ := hs
  have g2_301 : gi w' 2 301 = gi w 2 301 := s1 (2, 301) (by decide)
  have g35_1206 : gi w' 35 1206 = gi w 35 1206 := s1 (35, 1206) (by decide)
  have b39 : ∀ i : Nat, ga w' 39 i = ga w 39 i := ga_eq (s2 39 (by decide))
  have b40 : ∀ i : Nat, ga w' 40 i = ga w 40 i := ga_eq (s2 40 (by decide))
  have b41 : ∀ i : Nat, ga w' 41 i = ga w 41 i := ga_eq (s2 41 (by decide))
  have b42 : ∀ i : Nat, ga w' 42 i = ga w 42 i := ga_eq (s2 42 (by decide))
  have r3 : ∀ i : Nat, gr w' 3 i = gr w 3 i := gr_eq (s2 3 (by decide))
  unfold IL at h ⊢
  obtain ⟨n, h1, h2, h3, h4⟩ := h
  refine ⟨n, h1, by rw [g2_301]; exact h2, by rw [g35_1206]; exact h3, fun i hi => ?_⟩
  obtain ⟨h5, a, h6, h7, h8, h9, h10⟩ := h4 i hi
  have e := s3 a h6 (zis_lt h9 h7)
  simp only [g2_301, g35_1206, b39, b40, b41, b42, r3]
  refine ⟨h5, a, h6, h7, h8, by rw [zis_eq e]; exact h9, ?_⟩
  simp only [zf_eq e]
  exact h10
def IP (w : zH) : Prop := ∃ n : Nat, n ≤ 16 ∧ gi w 0 1103 = nI n ∧ gi w 35 1211 = nI n ∧ ∀ i : Nat, i < n → (0 ≤ ga w 43 i ∧ ga w 43 i ≤ 5 ∧ 0 ≤ ga w 44 i ∧ ga w 44 i ≤ 4 ∧ 1000 ≤ ga w 45 i ∧ ga w 45 i ≤ 1999 ∧ 0 ≤ ga w 46 i ∧ ga w 46 i ≤ 10000) ∧ ∃ a : Nat, 65 ≤ a ∧ a < zX ∧ gr w 4 i = .ref a ∧ zis w a 7 ∧ zf w a 700 = some (.int (ga w 43 i)) ∧ zf w a 701 = some (.int (ga w 44 i)) ∧ zf w a 702 = some (.int (ga w 45 i)) ∧ zf w a 703 = some (.int (ga w 46 i))
abbrev IP_i : List (Nat × Nat) := [(0, 1103), (35, 1211)]
abbrev IP_a : List Nat := [43, 44, 45, 46, 4]
theorem IP_sam {w w' : zH} (h : IP w) (hs : zSam w w' IP_i IP_a) : IP w' := by
  obtain ⟨s1, s2, s3, -⟩ := hs
  have g0_1103 : gi w' 0 1103 = gi w 0 1103 := s1 (0, 1103) (by decide)
  have g35_1211 : gi w' 35 1211 = gi w 35 1211 := s1 (35, 1211) (by decide)
  have b43 : ∀ i : Nat, ga w' 43 i = ga w 43 i := ga_eq (s2 43 (by decide))
  have b44 : ∀ i : Nat, ga w' 44 i = ga w 44 i := ga_eq (s2 44 (by decide))
  have b45 : ∀ i : Nat, ga w' 45 i = ga w 45 i := ga_eq (s2 45 (by decide))
  have b46 : ∀ i : Nat, ga w' 46 i = ga w 46 i := ga_eq (s2 46 (by decide))
  have r4 : ∀ i : Nat, gr w' 4 i = gr w 4 i := gr_eq (s2 4 (by decide))
  unfold IP at h ⊢
  obtain ⟨n, h1, h2, h3, h4⟩ := h
  refine ⟨n, h1, by rw [g0_1103]; exact h2, by rw [g35_1211]; exact h3, fun i hi => ?_⟩
  obtain ⟨h5, a, h6, h7, h8, h9, h10⟩ := h4 i hi
  have e := s3 a h6 (zis_lt h9 h7)
  simp only [g0_1103, g35_1211, b43, b44, b45, b46, r4]
  refine ⟨h5, a, h6, h7, h8, by rw [zis_eq e]; exact h9, ?_⟩
  simp only [zf_eq e]
  exact h10
def IA (w : zH) : Prop := ∃ n : Nat, n ≤ 24 ∧ gi w 0 1106 = nI n ∧ gi w 35 1217 = nI n ∧ ∀ i : Nat, i < n → (0 ≤ ga w 47 (6 * i) ∧ (ga w 47 (6 * i + 5) = 0 ∨ ga w 47 (6 * i + 5) = 1)) ∧ ∃ a : Nat, 65 ≤ a ∧ a < zX ∧ gr w 7 i = .ref a ∧ zis w a 0 ∧ zf w a 0 = some (.int (ga w 47 (6 * i))) ∧ zf w a 1 = some (.int (ga w 47 (6 * i + 1))) ∧ zf w a 2 = some (.int (ga w 47 (6 * i + 2))) ∧ zf w a 3 = some (.int (ga w 47 (6 * i + 3))) ∧ zf w a 4 = some (.int (ga w 47 (6 * i + 4))) ∧ zf w a 5 = some (.int (ga w 47 (6 * i + 5)))
abbrev IA_i : List (Nat × Nat) := [(0, 1106), (35, 1217)]
abbrev IA_a : List Nat := [47, 7]
theorem IA_sam {w w' : zH} (h : IA w) (hs : zSam w w' IA_i IA_a) : IA w' := by
  obtain ⟨s1, s2, s3, -⟩ := hs
  have g0_1106 : gi w' 0 1106 = gi w 0 1106 := s1 (0, 1106) (by decide)
  have g35_1217 : gi w' 35 1217 = gi w 35 1217 := s1 (35, 1217) (by decide)
  have b47 : ∀ i : Nat, ga w' 47 i = ga w 47 i := ga_eq (s2 47 (by decide))
  have r7 : ∀ i : Nat, gr w' 7 i = gr w 7 i := gr_eq (s2 7 (by decide))
  unfold IA at h ⊢
  obtain ⟨n, h1, h2, h3, h4⟩ := h
  refine ⟨n, h1, by rw [g0_1106]; exact h2, by rw [g35_1217]; exact h3, fun i hi => ?_⟩
  obtain ⟨h5, a, h6, h7, h8, h9, h10⟩ := h4 i hi
  have e := s3 a h6 (zis_lt h9 h7)
  simp only [g0_1106, g35_1217, b47, r7]
  refine ⟨h5, a, h6, h7, h8, by rw [zis_eq e]; exact h9, ?_⟩
  simp only [zf_eq e]
  exact h10
def IF (w : zH) : Prop := gi w 0 1107 = gi w 35 1222
abbrev IF_i : List (Nat × Nat) := [(0, 1107), (35, 1222)]
abbrev IF_a : List Nat := []
theorem IF_sam {w w' : zH} (h : IF w) (hs : zSam w w' IF_i IF_a) : IF w' := by
  obtain ⟨s1, s2, s3, -⟩ := hs
  have g0_1107 : gi w' 0 1107 = gi w 0 1107 := s1 (0, 1107) (by decide)
  have g35_1222 : gi w' 35 1222 = gi w 35 1222 := s1 (35, 1222) (by decide)
  unfold IF at h ⊢
  simpa only [g0_1107, g35_1222] using h
def IT (w : zH) : Prop := ∃ n : Nat, n ≤ 500 ∧ gi w 5 901 = nI n ∧ gi w 35 1221 = nI n ∧ ∀ i : Nat, i < n → ga w 6 i = ga w 48 i ∧ 0 ≤ ga w 48 i ∧ ga w 48 i ≤ 255
abbrev IT_i : List (Nat × Nat) := [(5, 901), (35, 1221)]
abbrev IT_a : List Nat := [6, 48]
theorem IT_sam {w w' : zH} (h : IT w) (hs : zSam w w' IT_i IT_a) : IT w' := by
  obtain ⟨s1, s2, s3, -⟩ := hs
  have g5_901 : gi w' 5 901 = gi w 5 901 := s1 (5, 901) (by decide)
  have g35_1221 : gi w' 35 1221 = gi w 35 1221 := s1 (35, 1221) (by decide)
  have b6 : ∀ i : Nat, ga w' 6 i = ga w 6 i := ga_eq (s2 6 (by decide))
  have b48 : ∀ i : Nat, ga w' 48 i = ga w 48 i := ga_eq (s2 48 (by decide))
  unfold IT at h ⊢
  simpa only [g5_901, g35_1221, b6, b48] using h
def IO (w : zH) : Prop := (gi w 9 602 = gi w 35 1237 ∧ 0 ≤ gi w 35 1237 ∧ gi w 35 1237 ≤ 30) ∧ ∀ c : Nat, c < 8 → ga w 10 c = ga w 55 c ∧ 0 ≤ ga w 55 c ∧ ga w 55 c ≤ 255
abbrev IO_i : List (Nat × Nat) := [(9, 602), (35, 1237)]
abbrev IO_a : List Nat := [10, 55]
theorem IO_sam {w w' : zH} (h : IO w) (hs : zSam w w' IO_i IO_a) : IO w' := by
  obtain ⟨s1, s2, s3, -⟩ := hs
  have g9_602 : gi w' 9 602 = gi w 9 602 := s1 (9, 602) (by decide)
  have g35_1237 : gi w' 35 1237 = gi w 35 1237 := s1 (35, 1237) (by decide)
  have b10 : ∀ i : Nat, ga w' 10 i = ga w 10 i := ga_eq (s2 10 (by decide))
  have b55 : ∀ i : Nat, ga w' 55 i = ga w 55 i := ga_eq (s2 55 (by decide))
  unfold IO at h ⊢
  simpa only [g9_602, g35_1237, b10, b55] using h
def IW (w : zH) : Prop := ∃ n : Nat, n ≤ 20 ∧ gi w 0 1112 = nI n ∧ gi w 35 1240 = nI n ∧ ∀ i : Nat, i < n → (0 ≤ ga w 57 i ∧ ga w 57 i < gi w 35 1211 ∧ 0 ≤ ga w 59 i ∧ ga w 59 i ≤ 99999) ∧ ∃ a : Nat, 65 ≤ a ∧ a < zX ∧ gr w 12 i = .ref a ∧ zis w a 10 ∧ zf w a 1000 = some (.int (ga w 57 i)) ∧ zf w a 1001 = some (.int (ga w 58 i)) ∧ zf w a 1002 = some (.int (ga w 59 i))
abbrev IW_i : List (Nat × Nat) := [(0, 1112), (35, 1240), (35, 1211)]
abbrev IW_a : List Nat := [57, 58, 59, 12]
theorem IW_sam {w w' : zH} (h : IW w) (hs : zSam w w' IW_i IW_a) : IW w' := by
  obtain ⟨s1, s2, s3, -⟩ := hs
  have g0_1112 : gi w' 0 1112 = gi w 0 1112 := s1 (0, 1112) (by decide)
  have g35_1240 : gi w' 35 1240 = gi w 35 1240 := s1 (35, 1240) (by decide)
  have g35_1211 : gi w' 35 1211 = gi w 35 1211 := s1 (35, 1211) (by decide)
  have b57 : ∀ i : Nat, ga w' 57 i = ga w 57 i := ga_eq (s2 57 (by decide))
  have b58 : ∀ i : Nat, ga w' 58 i = ga w 58 i := ga_eq (s2 58 (by decide))
  have b59 : ∀ i : Nat, ga w' 59 i = ga w 59 i := ga_eq (s2 59 (by decide))
  have r12 : ∀ i : Nat, gr w' 12 i = gr w 12 i := gr_eq (s2 12 (by decide))
  unfold IW at h ⊢
  obtain ⟨n, h1, h2, h3, h4⟩ := h
  refine ⟨n, h1, by rw [g0_1112]; exact h2, by rw [g35_1240]; exact h3, fun i hi => ?_⟩
  obtain ⟨h5, a, h6, h7, h8, h9, h10⟩ := h4 i hi
  have e := s3 a h6 (zis_lt h9 h7)
  simp only [g0_1112, g35_1240, g35_1211, b57, b58, b59, r12]
  refine ⟨h5, a, h6, h7, h8, by rw [zis_eq e]; exact h9, ?_⟩
  simp only [zf_eq e]
  exact h10
def IG (w : zH) : Prop := ∀ m : Nat, m < 12 → ga w 17 m = ga w 63 m ∧ 1 ≤ ga w 63 m ∧ ga w 63 m ≤ 9
abbrev IG_i : List (Nat × Nat) := []
abbrev IG_a : List Nat := [17, 63]
theorem IG_sam {w w' : zH} (h : IG w) (hs : zSam w w' IG_i IG_a) : IG w' := by
  obtain ⟨s1, s2, s3, -⟩ := hs
  have b17 : ∀ i : Nat, ga w' 17 i = ga w 17 i := ga_eq (s2 17 (by decide))
  have b63 : ∀ i : Nat, ga w' 63 i = ga w 63 i := ga_eq (s2 63 (by decide))
  unfold IG at h ⊢
  simpa only [b17, b63] using h
def ID (w : zH) : Prop := gi w 0 1116 = gi w 35 1216 ∧ 0 ≤ gi w 35 1216 ∧ gi w 35 1216 ≤ 99999
abbrev ID_i : List (Nat × Nat) := [(0, 1116), (35, 1216)]
abbrev ID_a : List Nat := []
theorem ID_sam {w w' : zH} (h : ID w) (hs : zSam w w' ID_i ID_a) : ID w' := by
  obtain ⟨s1, s2, s3, -⟩ := hs
  have g0_1116 : gi w' 0 1116 = gi w 0 1116 := s1 (0, 1116) (by decide)
  have g35_1216 : gi w' 35 1216 = gi w 35 1216 := s1 (35, 1216) (by decide)
  unfold ID at h ⊢
  simpa only [g0_1116, g35_1216] using h
def IR (w : zH) : Prop := ∃ n : Nat, n ≤ 16 ∧ gi w 0 1118 = nI n ∧ gi w 35 1250 = nI n ∧ ∀ i : Nat, i < n → ga w 18 i = ga w 64 i
abbrev IR_i : List (Nat × Nat) := [(0, 1118), (35, 1250)]
abbrev IR_a : List Nat := [18, 64]
theorem IR_sam {w w' : zH} (h : IR w) (hs : zSam w w' IR_i IR_a) : IR w' := by
  obtain ⟨s1, s2, s3, -⟩ := hs
  have g0_1118 : gi w' 0 1118 = gi w 0 1118 := s1 (0, 1118) (by decide)
  have g35_1250 : gi w' 35 1250 = gi w 35 1250 := s1 (35, 1250) (by decide)
  have b18 : ∀ i : Nat, ga w' 18 i = ga w 18 i := ga_eq (s2 18 (by decide))
  have b64 : ∀ i : Nat, ga w' 64 i = ga w 64 i := ga_eq (s2 64 (by decide))
  unfold IR at h ⊢
  simpa only [g0_1118, g35_1250, b18, b64] using h
def IE (w : zH) : Prop := ∀ s : Nat, s < 8 → (gi w (19 + 2 * s) 801 = (if ga w 36 s < 0 then 0 else 1) ∧ (0 ≤ ga w 36 s → gi w (19 + 2 * s) 802 = ga w 36 s) ∧ -1 ≤ ga w 36 s ∧ ga w 36 s ≤ 2 ∧ gi w (19 + 2 * s) 803 = ga w 37 s ∧ 0 ≤ ga w 37 s ∧ ga w 37 s ≤ 100) ∧ ∀ k : Nat, k < 100 → ga w (20 + 2 * s) k = ga w 38 (100 * s + k)
abbrev IE_i : List (Nat × Nat) := [(19, 801), (19, 802), (19, 803), (21, 801), (21, 802), (21, 803), (23, 801), (23, 802), (23, 803), (25, 801), (25, 802), (25, 803), (27, 801), (27, 802), (27, 803), (29, 801), (29, 802), (29, 803), (31, 801), (31, 802), (31, 803), (33, 801), (33, 802), (33, 803)]
abbrev IE_a : List Nat := [36, 37, 38, 20, 22, 24, 26, 28, 30, 32, 34]
theorem IE_sam {w w' : zH} (h : IE w) (hs : zSam w w' IE_i IE_a) : IE w' := by
  obtain ⟨s1, s2, s3, -⟩ := hs
  intro s hs
  have c : ∀ s, s < 8 → (19 + 2 * s, 801) ∈ IE_i ∧ (19 + 2 * s, 802) ∈ IE_i ∧ (19 + 2 * s, 803) ∈ IE_i ∧ 20 + 2 * s ∈ IE_a := by decide
  obtain ⟨c1, c2, c3, c4⟩ := c s hs
  have g1 : gi w' (19 + 2 * s) 801 = gi w (19 + 2 * s) 801 := s1 _ c1
  have g2 : gi w' (19 + 2 * s) 802 = gi w (19 + 2 * s) 802 := s1 _ c2
  have g3 : gi w' (19 + 2 * s) 803 = gi w (19 + 2 * s) 803 := s1 _ c3
  have b36 : ∀ i : Nat, ga w' 36 i = ga w 36 i := ga_eq (s2 36 (by decide))
  have b37 : ∀ i : Nat, ga w' 37 i = ga w 37 i := ga_eq (s2 37 (by decide))
  have b38 : ∀ i : Nat, ga w' 38 i = ga w 38 i := ga_eq (s2 38 (by decide))
  have b20 : ∀ i : Nat, ga w' (20 + 2 * s) i = ga w (20 + 2 * s) i := ga_eq (s2 _ c4)
  simp only [g1, g2, g3, b36, b37, b38, b20]
  exact h s hs
def IV (w : zH) : Prop := ∃ n : Nat, n ≤ 10 ∧ gi w 0 1109 = nI n ∧ gi w 35 1230 = nI n ∧ ∃ (fa fb : Nat → Nat) (fp : Nat → Int32), (∀ i j : Nat, i < n → j < n → fa i = fa j → i = j) ∧ (∀ i j : Nat, i < n → j < n → fb i = fb j → i = j) ∧ ∀ i : Nat, i < n → (0 ≤ ga w 53 i ∧ ga w 53 i ≤ 255) ∧ (65 ≤ fa i ∧ fa i < zX ∧ gr w 8 i = .ref (fa i) ∧ zis w (fa i) 4 ∧ zf w (fa i) 400 = some (.int (ga w 49 i)) ∧ zf w (fa i) 401 = some (.int (ga w 50 i)) ∧ zf w (fa i) 402 = some (.int (ga w 51 i)) ∧ zf w (fa i) 403 = some (.int (ga w 52 i)) ∧ zf w (fa i) 404 = some (.int (ga w 53 i)) ∧ zf w (fa i) 405 = some (.ref (fb i)) ∧ zf w (fa i) 406 = some (.int (fp i))) ∧ (65 ≤ fb i ∧ fb i < zX ∧ (∃ vs : List Value, w[fb i]? = some (100, vs) ∧ vs.length = 8 ∧ ∀ (c : Nat) (v : Value), vs[c]? = some v → zint v = true)) ∧ (0 ≤ fp i ∧ fp i ≤ 255) ∧ ∀ c : Nat, c < 8 → ((fp i >>> (nI c &&& 31)) &&& 1 = 0 → ga w 54 (8 * i + c) = -1000000) ∧ (¬ (fp i >>> (nI c &&& 31)) &&& 1 = 0 → 0 ≤ ga w 54 (8 * i + c) ∧ ga w (fb i) c = ga w 54 (8 * i + c) ∧ ¬ (ga w 53 i >>> (nI c &&& 31)) &&& 1 = 0)
abbrev IV_i : List (Nat × Nat) := [(0, 1109), (35, 1230)]
abbrev IV_a : List Nat := [49, 50, 51, 52, 53, 54, 8]
theorem IV_sam {w w' : zH} (h : IV w) (hs : zSam w w' IV_i IV_a) : IV w' := by
  obtain ⟨s1, s2, s3, -⟩ := hs
  have g0_1109 : gi w' 0 1109 = gi w 0 1109 := s1 (0, 1109) (by decide)
  have g35_1230 : gi w' 35 1230 = gi w 35 1230 := s1 (35, 1230) (by decide)
  have b49 : ∀ i : Nat, ga w' 49 i = ga w 49 i := ga_eq (s2 49 (by decide))
  have b50 : ∀ i : Nat, ga w' 50 i = ga w 50 i := ga_eq (s2 50 (by decide))
  have b51 : ∀ i : Nat, ga w' 51 i = ga w 51 i := ga_eq (s2 51 (by decide))
  have b52 : ∀ i : Nat, ga w' 52 i = ga w 52 i := ga_eq (s2 52 (by decide))
  have b53 : ∀ i : Nat, ga w' 53 i = ga w 53 i := ga_eq (s2 53 (by decide))
  have b54 : ∀ i : Nat, ga w' 54 i = ga w 54 i := ga_eq (s2 54 (by decide))
  have r8 : ∀ i : Nat, gr w' 8 i = gr w 8 i := gr_eq (s2 8 (by decide))
  unfold IV at h ⊢
  obtain ⟨n, h1, h2, h3, fa, fb, fp, hj, hj2, h4⟩ := h
  refine ⟨n, h1, by rw [g0_1109]; exact h2, by rw [g35_1230]; exact h3, fa, fb, fp, hj, hj2, fun i hi => ?_⟩
  obtain ⟨h5, ⟨h6, h7, h8, h9, h10⟩, ⟨k1, k2, vs, k3, k4⟩, k5⟩ := h4 i hi
  have e := s3 (fa i) h6 (zis_lt h9 h7)
  have e2 := s3 (fb i) k1 (List.getElem?_eq_some_iff.mp k3).1
  simp only [g0_1109, g35_1230, b49, b50, b51, b52, b53, b54, r8]
  refine ⟨h5, ⟨h6, h7, h8, by rw [zis_eq e]; exact h9, ?_⟩, ⟨k1, k2, vs, by rw [e2]; exact k3, k4⟩, ?_⟩
  · simp only [zf_eq e]
    exact h10
  · simp only [ga_eq e2]
    exact k5
def IC (w : zH) : Prop := ∃ n : Nat, n ≤ 16 ∧ gi w 15 202 = nI n ∧ gi w 35 1244 = nI n ∧ ∃ fa : Nat → Nat, (∀ i j : Nat, i < n → j < n → fa i = fa j → i = j) ∧ ∀ i : Nat, i < n → (0 ≤ ga w 60 i ∧ ga w 60 i ≤ 4095 ∧ (ga w 61 i = 0 ∨ ga w 61 i = 1) ∧ 0 ≤ ga w 62 i ∧ ga w 62 i ≤ 99999) ∧ 65 ≤ fa i ∧ fa i < zX ∧ gr w 16 i = .ref (fa i) ∧ zis w (fa i) 1 ∧ zf w (fa i) 100 = some (.int (ga w 60 i)) ∧ zf w (fa i) 101 = some (.int (ga w 61 i)) ∧ zf w (fa i) 102 = some (.int (ga w 62 i)) ∧ (∃ x : Int32, zf w (fa i) 103 = some (.int x)) ∧ ∃ x : Int32, zf w (fa i) 104 = some (.int x)
abbrev IC_i : List (Nat × Nat) := [(15, 202), (35, 1244)]
abbrev IC_a : List Nat := [60, 61, 62, 16]
theorem IC_sam {w w' : zH} (h : IC w) (hs : zSam w w' IC_i IC_a) : IC w' := by
  obtain ⟨s1, s2, s3, -⟩ := hs
  have g15_202 : gi w' 15 202 = gi w 15 202 := s1 (15, 202) (by decide)
  have g35_1244 : gi w' 35 1244 = gi w 35 1244 := s1 (35, 1244) (by decide)
  have b60 : ∀ i : Nat, ga w' 60 i = ga w 60 i := ga_eq (s2 60 (by decide))
  have b61 : ∀ i : Nat, ga w' 61 i = ga w 61 i := ga_eq (s2 61 (by decide))
  have b62 : ∀ i : Nat, ga w' 62 i = ga w 62 i := ga_eq (s2 62 (by decide))
  have r16 : ∀ i : Nat, gr w' 16 i = gr w 16 i := gr_eq (s2 16 (by decide))
  unfold IC at h ⊢
  obtain ⟨n, h1, h2, h3, fa, hj, h4⟩ := h
  refine ⟨n, h1, by rw [g15_202]; exact h2, by rw [g35_1244]; exact h3, fa, hj, fun i hi => ?_⟩
  obtain ⟨h5, h6, h7, h8, h9, h10⟩ := h4 i hi
  have e := s3 (fa i) h6 (zis_lt h9 h7)
  simp only [g15_202, g35_1244, b60, b61, b62, r16]
  refine ⟨h5, h6, h7, h8, by rw [zis_eq e]; exact h9, ?_⟩
  simp only [zf_eq e]
  exact h10
/-- the invariant -/
def Inv (w : zH) : Prop := Sh w ∧ IS w ∧ IH w ∧ IL w ∧ IP w ∧ IA w ∧ IF w ∧ IT w ∧ IO w ∧ IW w ∧ IG w ∧ ID w ∧ IR w ∧ IE w ∧ IV w ∧ IC w
