/-! the tables' facts of classes, fields and methods, by number -/
def zcls (k : Nat) (C : String) (T : u_T) (N : Nat) : Prop := k < 13 ∧ N = znf.getD k 0 ∧ (∀ w ∈ u_ws C T N, w ∈ zG) ∧ (∀ a, a < N → ∀ b, b < N → a ≠ b → (T a).2.1 ≠ (T b).2.1) ∧ (∀ j, j < N → parseFieldDescriptor (T j).2.2.1 = some (zfty (100 * k + j))) ∧ Cond.instantiable C N ∈ zG ∧ Cond.initialized C ∈ zG ∧ zO[k]? = some C ∧ zO.getD k "" = C ∧ ∀ j, j < N → (T j).1 = C
theorem zcls_0 : zcls 0 RX0 TX0 6 := by
  refine ⟨by omega, rfl, zw_fld0, nmX0, fun j hj => ?_, zw_ins0, zw_ini0, rfl, rfl, by decide +kernel⟩
  have h : zfty (100 * 0 + j) = tyX0 j := by
    unfold zfty
    rw [if_pos (by omega)]
    have e : 100 * 0 + j = j := by omega
    rw [e]
  rw [h]
  exact tyX0_ok j hj
theorem zcls_1 : zcls 1 RX1 TX1 5 := by
  refine ⟨by omega, rfl, zw_fld1, nmX1, fun j hj => ?_, zw_ins1, zw_ini1, rfl, rfl, by decide +kernel⟩
  have h : zfty (100 * 1 + j) = tyX1 j := by
    unfold zfty
    rw [if_neg (by omega), if_pos (by omega)]
    have e : 100 * 1 + j - 100 = j := by omega
    rw [e]
  rw [h]
  exact tyX1_ok j hj
theorem zcls_2 : zcls 2 RX2 TX2 3 := by
  refine ⟨by omega, rfl, zw_fld2, nmX2, fun j hj => ?_, zw_ins2, zw_ini2, rfl, rfl, by decide +kernel⟩
  have h : zfty (100 * 2 + j) = tyX2 j := by
    unfold zfty
    rw [if_neg (by omega), if_neg (by omega), if_pos (by omega)]
    have e : 100 * 2 + j - 200 = j := by omega
    rw [e]
  rw [h]
  exact tyX2_ok j hj
theorem zcls_3 : zcls 3 RX3 TX3 3 := by
  refine ⟨by omega, rfl, zw_fld3, nmX3, fun j hj => ?_, zw_ins3, zw_ini3, rfl, rfl, by decide +kernel⟩
  have h : zfty (100 * 3 + j) = tyX3 j := by
    unfold zfty
    rw [if_neg (by omega), if_neg (by omega), if_neg (by omega), if_pos (by omega)]
    have e : 100 * 3 + j - 300 = j := by omega
    rw [e]
  rw [h]
  exact tyX3_ok j hj
theorem zcls_4 : zcls 4 RX4 TX4 7 := by
  refine ⟨by omega, rfl, zw_fld4, nmX4, fun j hj => ?_, zw_ins4, zw_ini4, rfl, rfl, by decide +kernel⟩
  have h : zfty (100 * 4 + j) = tyX4 j := by
    unfold zfty
    rw [if_neg (by omega), if_neg (by omega), if_neg (by omega), if_neg (by omega), if_pos (by omega)]
    have e : 100 * 4 + j - 400 = j := by omega
    rw [e]
  rw [h]
  exact tyX4_ok j hj
theorem zcls_5 : zcls 5 RX5 TX5 4 := by
  refine ⟨by omega, rfl, zw_fld5, nmX5, fun j hj => ?_, zw_ins5, zw_ini5, rfl, rfl, by decide +kernel⟩
  have h : zfty (100 * 5 + j) = tyX5 j := by
    unfold zfty
    rw [if_neg (by omega), if_neg (by omega), if_neg (by omega), if_neg (by omega), if_neg (by omega), if_pos (by omega)]
    have e : 100 * 5 + j - 500 = j := by omega
    rw [e]
  rw [h]
  exact tyX5_ok j hj
theorem zcls_6 : zcls 6 RX6 TX6 3 := by
  refine ⟨by omega, rfl, zw_fld6, nmX6, fun j hj => ?_, zw_ins6, zw_ini6, rfl, rfl, by decide +kernel⟩
  have h : zfty (100 * 6 + j) = tyX6 j := by
    unfold zfty
    rw [if_neg (by omega), if_neg (by omega), if_neg (by omega), if_neg (by omega), if_neg (by omega), if_neg (by omega), if_pos (by omega)]
    have e : 100 * 6 + j - 600 = j := by omega
    rw [e]
  rw [h]
  exact tyX6_ok j hj
theorem zcls_7 : zcls 7 RX7 TX7 4 := by
  refine ⟨by omega, rfl, zw_fld7, nmX7, fun j hj => ?_, zw_ins7, zw_ini7, rfl, rfl, by decide +kernel⟩
  have h : zfty (100 * 7 + j) = tyX7 j := by
    unfold zfty
    rw [if_neg (by omega), if_neg (by omega), if_neg (by omega), if_neg (by omega), if_neg (by omega), if_neg (by omega), if_neg (by omega), if_pos (by omega)]
    have e : 100 * 7 + j - 700 = j := by omega
    rw [e]
  rw [h]
  exact tyX7_ok j hj
theorem zcls_8 : zcls 8 RX8 TX8 4 := by
  refine ⟨by omega, rfl, zw_fld8, nmX8, fun j hj => ?_, zw_ins8, zw_ini8, rfl, rfl, by decide +kernel⟩
  have h : zfty (100 * 8 + j) = tyX8 j := by
    unfold zfty
    rw [if_neg (by omega), if_neg (by omega), if_neg (by omega), if_neg (by omega), if_neg (by omega), if_neg (by omega), if_neg (by omega), if_neg (by omega), if_pos (by omega)]
    have e : 100 * 8 + j - 800 = j := by omega
    rw [e]
  rw [h]
  exact tyX8_ok j hj
theorem zcls_9 : zcls 9 RX9 TX9 7 := by
  refine ⟨by omega, rfl, zw_fld9, nmX9, fun j hj => ?_, zw_ins9, zw_ini9, rfl, rfl, by decide +kernel⟩
  have h : zfty (100 * 9 + j) = tyX9 j := by
    unfold zfty
    rw [if_neg (by omega), if_neg (by omega), if_neg (by omega), if_neg (by omega), if_neg (by omega), if_neg (by omega), if_neg (by omega), if_neg (by omega), if_neg (by omega), if_pos (by omega)]
    have e : 100 * 9 + j - 900 = j := by omega
    rw [e]
  rw [h]
  exact tyX9_ok j hj
theorem zcls_10 : zcls 10 RX10 TX10 3 := by
  refine ⟨by omega, rfl, zw_fld10, nmX10, fun j hj => ?_, zw_ins10, zw_ini10, rfl, rfl, by decide +kernel⟩
  have h : zfty (100 * 10 + j) = tyX10 j := by
    unfold zfty
    rw [if_neg (by omega), if_neg (by omega), if_neg (by omega), if_neg (by omega), if_neg (by omega), if_neg (by omega), if_neg (by omega), if_neg (by omega), if_neg (by omega), if_neg (by omega), if_pos (by omega)]
    have e : 100 * 10 + j - 1000 = j := by omega
    rw [e]
  rw [h]
  exact tyX10_ok j hj
theorem zcls_11 : zcls 11 RX11 TX11 20 := by
  refine ⟨by omega, rfl, zw_fld11, nmX11, fun j hj => ?_, zw_ins11, zw_ini11, rfl, rfl, by decide +kernel⟩
  have h : zfty (100 * 11 + j) = tyX11 j := by
    unfold zfty
    rw [if_neg (by omega), if_neg (by omega), if_neg (by omega), if_neg (by omega), if_neg (by omega), if_neg (by omega), if_neg (by omega), if_neg (by omega), if_neg (by omega), if_neg (by omega), if_neg (by omega), if_pos (by omega)]
    have e : 100 * 11 + j - 1100 = j := by omega
    rw [e]
  rw [h]
  exact tyX11_ok j hj
theorem zcls_12 : zcls 12 RX12 TX12 51 := by
  refine ⟨by omega, rfl, zw_fld12, nmX12, fun j hj => ?_, zw_ins12, zw_ini12, rfl, rfl, by decide +kernel⟩
  have h : zfty (100 * 12 + j) = tyX12 j := by
    unfold zfty
    rw [if_neg (by omega), if_neg (by omega), if_neg (by omega), if_neg (by omega), if_neg (by omega), if_neg (by omega), if_neg (by omega), if_neg (by omega), if_neg (by omega), if_neg (by omega), if_neg (by omega), if_neg (by omega)]
    have e : 100 * 12 + j - 1200 = j := by omega
    rw [e]
  rw [h]
  exact tyX12_ok j hj
theorem zvw {k : Nat} {C : String} {T : u_T} {N : Nat} (h : vwCl[k]? = some (C, T, N)) : zcls k C T N := by
  match k, h with
  | 0, h => cases h; exact zcls_0
  | 1, h => cases h; exact zcls_1
  | 2, h => cases h; exact zcls_2
  | 3, h => cases h; exact zcls_3
  | 4, h => cases h; exact zcls_4
  | 5, h => cases h; exact zcls_5
  | 6, h => cases h; exact zcls_6
  | 7, h => cases h; exact zcls_7
  | 8, h => cases h; exact zcls_8
  | 9, h => cases h; exact zcls_9
  | 10, h => cases h; exact zcls_10
  | 11, h => cases h; exact zcls_11
  | 12, h => cases h; exact zcls_12
  | k + 13, h => simp [vwCl] at h
theorem zvw_some {k : Nat} (h : k < 13) : ∃ (C : String) (T : u_T) (N : Nat), vwCl[k]? = some (C, T, N) := by
  have : k < vwCl.length := h
  exact ⟨_, _, _, List.getElem?_eq_getElem this⟩
theorem zFL_world {ow k n : Nat} {b : Bool} (h : (ow, k, n, b) ∈ zFL) : (∃ (C : String) (T : u_T) (N : Nat), vwCl[n / 100]? = some (C, T, N) ∧ n % 100 < N ∧ (b = true → Cond.fieldLinkNest (zO.getD ow "") k (T (n % 100)).1 (T (n % 100)).2.1 (T (n % 100)).2.2.1 RX11 ∈ zNW) ∧ (b = false → Cond.fieldLink (zO.getD ow "") k (T (n % 100)).1 (T (n % 100)).2.1 (T (n % 100)).2.2.1 ∈ zG)) ∨ (b = false ∧ n = 1300 ∧ Cond.fieldLink (zO.getD ow "") k RJ0 "value" "[B" ∈ zG) ∨ (b = false ∧ n = 1301 ∧ Cond.fieldLink (zO.getD ow "") k RJ0 "coder" "B" ∈ zG) := by
  obtain ⟨q, hq⟩ := zFL_ok _ h
  unfold zFok at hq
  dsimp only at hq
  cases hv : vwCl[n / 100]? with
  | none =>
    rw [hv] at hq
    simp only [Bool.and_eq_true, Bool.or_eq_true, Bool.not_eq_true', beq_iff_eq] at hq
    obtain ⟨h0, ⟨h1, h2⟩ | ⟨h1, h2⟩⟩ := hq
    · exact Or.inr (Or.inl ⟨h0, h1, zin_G h2⟩)
    · exact Or.inr (Or.inr ⟨h0, h1, zin_G h2⟩)
  | some x =>
    obtain ⟨C, T, N⟩ := x
    rw [hv] at hq
    simp only [Bool.and_eq_true, decide_eq_true_eq] at hq
    refine Or.inl ⟨C, T, N, rfl, hq.1, fun hb => ?_, fun hb => ?_⟩
    · subst hb
      exact zinN_G (by simpa using hq.2)
    · subst hb
      exact zin_G (by simpa using hq.2)
/-- a method that is called -/
theorem zY_get {n : Nat} (hn : n < 242) : ∃ (k np mL : Nat), zM[n]? = some (k, np, mL) ∧ Cond.initialized (zN.getD n objectInit).cls ∈ zG ∧ ((zN.getD n objectInit).cls ≠ "java/lang/invoke/MethodHandle" ∧ (zN.getD n objectInit).cls ≠ "java/lang/invoke/VarHandle") ∧ (parseMethodDescriptor (zN.getD n objectInit).desc).map (fun d => d.parameters.length) = some np ∧ zO[zOw.getD n 0]? = some (zN.getD n objectInit).cls ∧
    (k = 99 → Cond.static (zN.getD n objectInit) ∈ zG) ∧ (k ≠ 99 → Cond.instanceMethod (zN.getD n objectInit) ∈ zG ∧ ((zN.getD n objectInit).name = "<init>" ∨ (zO[k]? = some (zN.getD n objectInit).cls ∧ Cond.selects (zN.getD n objectInit).cls (zN.getD n objectInit) (zN.getD n objectInit) ∈ zG))) := by
  have h := List.all_eq_true.mp zY_ok n (List.mem_range.mpr hn)
  unfold zYok at h
  cases h1 : zN[n]? with
  | none => rw [h1] at h; cases h
  | some y =>
    cases h2 : zM[n]? with
    | none => rw [h1, h2] at h; cases h
    | some x =>
      obtain ⟨k, np, mL⟩ := x
      rw [h1, h2] at h
      have e : zN.getD n objectInit = y := by rw [List.getD_eq_getElem?_getD, h1]; rfl
      rw [e]
      simp only [Bool.and_eq_true, decide_eq_true_eq] at h
      obtain ⟨⟨⟨⟨⟨a1, a2⟩, a3⟩, a4⟩, a5⟩, a6⟩ := h
      refine ⟨k, np, mL, rfl, zin_G a1, ⟨a2, a3⟩, a4, a5, fun hk => ?_, fun hk => ?_⟩
      · rw [if_pos hk] at a6
        exact zin_G a6
      · rw [if_neg hk] at a6
        simp only [Bool.and_eq_true, Bool.or_eq_true, decide_eq_true_eq] at a6
        refine ⟨zin_G a6.1, ?_⟩
        rcases a6.2 with z | z
        · exact Or.inl z
        · exact Or.inr ⟨z.1, zinL_G z.2⟩
theorem zcw_mem {a n : Nat} {L : List Nat} (h : (List.range' a n).map (fun n => some (zcw n)) = L.map (fun k => tables_1[k]?)) {i : Nat} (h1 : a ≤ i) (h2 : i < a + n) : zcw i ∈ tables_1 := by
  have hm : some (zcw i) ∈ (List.range' a n).map (fun n => some (zcw n)) := List.mem_map.mpr ⟨i, by rw [List.mem_range'_1]; exact ⟨h1, h2⟩, rfl⟩
  rw [h] at hm
  obtain ⟨k, -, hk⟩ := List.mem_map.mp hm
  exact List.mem_of_getElem? hk
theorem zcw_G {n : Nat} (hn : n < 242) : zcw n ∈ zG := by
  refine List.mem_filter.mpr ⟨List.mem_append_right _ ?_, rfl⟩
  by_cases h0 : n < 22
  · exact zcw_mem zcw_ok0 (by omega) (by omega)
  by_cases h22 : n < 44
  · exact zcw_mem zcw_ok22 (by omega) (by omega)
  by_cases h44 : n < 66
  · exact zcw_mem zcw_ok44 (by omega) (by omega)
  by_cases h66 : n < 88
  · exact zcw_mem zcw_ok66 (by omega) (by omega)
  by_cases h88 : n < 110
  · exact zcw_mem zcw_ok88 (by omega) (by omega)
  by_cases h110 : n < 132
  · exact zcw_mem zcw_ok110 (by omega) (by omega)
  by_cases h132 : n < 154
  · exact zcw_mem zcw_ok132 (by omega) (by omega)
  by_cases h154 : n < 176
  · exact zcw_mem zcw_ok154 (by omega) (by omega)
  by_cases h176 : n < 198
  · exact zcw_mem zcw_ok176 (by omega) (by omega)
  by_cases h198 : n < 220
  · exact zcw_mem zcw_ok198 (by omega) (by omega)
  by_cases h220 : n < 242
  · exact zcw_mem zcw_ok220 (by omega) (by omega)
  omega
theorem zML_get {ow k n : Nat} {b : Bool} (h : (ow, k, n, b) ∈ zML) (hn : n < 242) : (b = true → Cond.methodLinkNest (zO.getD ow "") k (zN.getD n objectInit) RX11 ∈ zNW) ∧ (b = false → Cond.methodLink (zO.getD ow "") k (zN.getD n objectInit) ∈ zG) := by
  obtain ⟨q, hq⟩ := zML_ok _ h
  unfold zMok at hq
  dsimp only at hq
  cases hv : zN[n]? with
  | none => rw [hv] at hq; cases hq
  | some y =>
    rw [hv] at hq
    have e : zN.getD n objectInit = y := by rw [List.getD_eq_getElem?_getD, hv]; rfl
    rw [e]
    refine ⟨fun hb => ?_, fun hb => ?_⟩
    · subst hb
      exact zinN_G (by simpa using hq)
    · subst hb
      exact zin_G (by simpa using hq)
theorem zCL_get {ow k n : Nat} (h : (ow, k, n) ∈ zCL) : ∃ (C : String) (T : u_T) (N : Nat), vwCl[n]? = some (C, T, N) ∧ Cond.classLink (zO.getD ow "") k C ∈ zG := by
  obtain ⟨q, hq⟩ := zCL_ok _ h
  unfold zCok at hq
  dsimp only at hq
  cases hv : vwCl[n]? with
  | none => rw [hv] at hq; cases hq
  | some x =>
    obtain ⟨C, T, N⟩ := x
    rw [hv] at hq
    exact ⟨C, T, N, rfl, zin_G hq⟩
theorem zG_good : GoodIn zG zG := fun w hw => ⟨hw, good_of_word (List.mem_filter.mp hw).2⟩
