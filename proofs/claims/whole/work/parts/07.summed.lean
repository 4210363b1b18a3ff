/-- all tables from a number on -/
def zAF : Nat → List (List (Nat × Instr)) → Prop
  | _, [] => True
  | k, t :: L => t.all (zokI k) = true ∧ zAF (k + 1) L
theorem zAF_get : ∀ (L : List (List (Nat × Instr))) (k : Nat), zAF k L → ∀ (i : Nat) (t : List (Nat × Instr)), L[i]? = some t → t.all (zokI (k + i)) = true := by
  intro L
  induction L with
  | nil => intro k _ i t h; simp at h
  | cons a L ih =>
    intro k h i t hi
    cases i with
    | zero => simp at hi; subst hi; exact h.1
    | succ i =>
      have := ih (k + 1) h.2 i t (by simpa using hi)
      rw [show k + (i + 1) = k + 1 + i by omega]
      exact this
theorem zlookup {L : List (Nat × Instr)} {a : Nat} {b : Instr} (h : L.lookup a = some b) : (a, b) ∈ L := by
  induction L with
  | nil => cases h
  | cons q L ih =>
    obtain ⟨c, d⟩ := q
    rw [List.lookup_cons] at h
    split at h
    · rename_i e
      have e : a = c := by simpa using e
      cases h; subst e
      exact List.mem_cons_self
    · exact List.mem_cons_of_mem _ (ih h)
set_option maxRecDepth 100000 in
theorem zAF_T : zAF 0 zT := ⟨zkm_0, zkm_1, zkm_2, zkm_3, zkm_4, zkm_5, zkm_6, zkm_7, zkm_8, zkm_9, zkm_10, zkm_11, zkm_12, zkm_13, zkm_14, zkm_15, zkm_16, zkm_17, zkm_18, zkm_19, zkm_20, zkm_21, zkm_22, zkm_23, zkm_24, zkm_25, zkm_26, zkm_27, zkm_28, zkm_29, zkm_30, zkm_31, zkm_32, zkm_33, zkm_34, zkm_35, zkm_36, zkm_37, zkm_38, zkm_39, zkm_40, zkm_41, zkm_42, zkm_43, zkm_44, zkm_45, zkm_46, zkm_47, zkm_48, zkm_49, zkm_50, zkm_51, zkm_52, zkm_53, zkm_54, zkm_55, zkm_56, zkm_57, zkm_58, zkm_59, zkm_60, zkm_61, zkm_62, zkm_63, zkm_64, zkm_65, zkm_66, zkm_67, zkm_68, zkm_69, zkm_70, zkm_71, zkm_72, zkm_73, zkm_74, zkm_75, zkm_76, zkm_77, zkm_78, zkm_79, zkm_80, zkm_81, zkm_82, zkm_83, zkm_84, zkm_85, zkm_86, zkm_87, zkm_88, zkm_89, zkm_90, zkm_91, zkm_92, zkm_93, zkm_94, zkm_95, zkm_96, zkm_97, zkm_98, zkm_99, zkm_100, zkm_101, zkm_102, zkm_103, zkm_104, zkm_105, zkm_106, zkm_107, zkm_108, zkm_109, zkm_110, zkm_111, zkm_112, zkm_113, zkm_114, zkm_115, zkm_116, zkm_117, zkm_118, zkm_119, zkm_120, zkm_121, zkm_122, zkm_123, zkm_124, zkm_125, zkm_126, zkm_127, zkm_128, zkm_129, zkm_130, zkm_131, zkm_132, zkm_133, zkm_134, zkm_135, zkm_136, zkm_137, zkm_138, zkm_139, zkm_140, zkm_141, zkm_142, zkm_143, zkm_144, zkm_145, zkm_146, zkm_147, zkm_148, zkm_149, zkm_150, zkm_151, zkm_152, zkm_153, zkm_154, zkm_155, zkm_156, zkm_157, zkm_158, zkm_159, zkm_160, zkm_161, zkm_162, zkm_163, zkm_164, zkm_165, zkm_166, zkm_167, zkm_168, zkm_169, zkm_170, zkm_171, zkm_172, zkm_173, zkm_174, zkm_175, zkm_176, zkm_177, zkm_178, zkm_179, zkm_180, zkm_181, zkm_182, zkm_183, zkm_184, zkm_185, zkm_186, zkm_187, zkm_188, zkm_189, zkm_190, zkm_191, zkm_192, zkm_193, zkm_194, zkm_195, zkm_196, zkm_197, zkm_198, zkm_199, zkm_200, zkm_201, zkm_202, zkm_203, zkm_204, zkm_205, zkm_206, zkm_207, zkm_208, zkm_209, zkm_210, zkm_211, zkm_212, zkm_213, zkm_214, zkm_215, zkm_216, zkm_217, zkm_218, zkm_219, zkm_220, zkm_221, zkm_222, zkm_223, zkm_224, zkm_225, zkm_226, zkm_227, zkm_228, zkm_229, zkm_230, zkm_231, zkm_232, zkm_233, zkm_234, zkm_235, zkm_236, zkm_237, zkm_238, zkm_239, zkm_240, zkm_241, zkm_242, trivial⟩
theorem zP_ok {y pc : Nat} {i : Instr} (h : zP y pc = some i) : zokI y (pc, i) = true := by
  unfold zP at h
  have hm := zlookup h
  cases ht : zT[y]? with
  | none => rw [List.getD_eq_getElem?_getD, ht] at hm; simp at hm
  | some t =>
    rw [List.getD_eq_getElem?_getD, ht] at hm
    have := zAF_get zT 0 zAF_T y t ht
    rw [Nat.zero_add] at this
    exact List.all_eq_true.mp this _ hm
def zqk : List Nat := [200, 201, 204, 205, 207, 208, 210]
set_option maxRecDepth 100000 in
theorem zanew_ok : (zT.all fun t => t.all fun e => match e.2 with
    | .anewarray n => decide (n ∈ zqk)
    | _ => true) = true := by decide +kernel
theorem zP_anew {y pc n : Nat} (h : zP y pc = some (.anewarray n)) : n ∈ zqk := by
  unfold zP at h
  have hm := zlookup h
  cases ht : zT[y]? with
  | none => rw [List.getD_eq_getElem?_getD, ht] at hm; simp at hm
  | some t =>
    rw [List.getD_eq_getElem?_getD, ht] at hm
    have h1 := List.all_eq_true.mp zanew_ok t (List.mem_of_getElem? ht)
    have h2 := List.all_eq_true.mp h1 _ hm
    simpa using h2
theorem zok_dec {y pc : Nat} {i : Instr} (h : zokI y (pc, i) = true) : ∃ (i0 : Instr) (len : Nat), decode (zCd.getD y ⟨#[]⟩) pc = .ok (i0, len) ∧ zokD y (zOw.getD y 0) i0 len i = true := by
  unfold zokI at h
  split at h
  · rename_i i0 len hd
    exact ⟨i0, len, hd, h⟩
  · cases h
theorem zok_plain {y pc : Nat} {i : Instr} (h : zokI y (pc, i) = true) (hs : ∀ (i0 : Instr) (len : Nat), zokD y (zOw.getD y 0) i0 len i = (decide (i0 = i) && decide (len = zlen i))) : decode (zCd.getD y ⟨#[]⟩) pc = .ok (i, zlen i) := by
  obtain ⟨i0, len, hd, h1⟩ := zok_dec h
  rw [hs] at h1
  simp only [Bool.and_eq_true, decide_eq_true_eq] at h1
  rw [hd, h1.1, h1.2]
