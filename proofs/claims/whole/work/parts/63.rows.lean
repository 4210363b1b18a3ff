/-! how many rows: the first taken off against the last -/
def sm (f : Nat → Int32) : Nat → Int32
  | 0 => 0
  | n + 1 => sm f n + f n
theorem sm_congr {f g : Nat → Int32} : ∀ n, (∀ c, c < n → f c = g c) → sm f n = sm g n := by
  intro n
  induction n with
  | zero => intro _; rfl
  | succ n ih =>
    intro hh
    rw [sm, sm, ih (fun c hc => hh c (by omega)), hh n (by omega)]
theorem sm_zero : ∀ n, sm (fun _ => 0) n = 0 := by
  intro n
  induction n with
  | zero => rfl
  | succ n ih => rw [sm, ih]; rfl
theorem z4c (a b c d : Int32) : (a + b) + (c + d) = (a + c) + (b + d) := by
  rw [Int32.add_assoc, Int32.add_assoc, ← Int32.add_assoc b c d, Int32.add_comm b c, Int32.add_assoc c b d]
theorem sm_add {f g : Nat → Int32} : ∀ n, sm (fun c => f c + g c) n = sm f n + sm g n := by
  intro n
  induction n with
  | zero => rfl
  | succ n ih => rw [sm, sm, sm, ih]; exact z4c _ _ _ _
theorem sm_swap {F : Nat → Nat → Int32} (n : Nat) : ∀ m, sm (fun c => sm (fun d => F c d) n) m = sm (fun d => sm (fun c => F c d) m) n := by
  intro m
  induction m with
  | zero => exact (sm_zero n).symm
  | succ m ih =>
    rw [sm, ih, ← sm_add]
    rfl
/-- may come last -/
def las (g : Nat → Nat) (S d : Nat) : Bool := S.testBit d && mtB (fun e => !S.testBit e || !(g e).testBit d) 8 0
theorem las_iff {g : Nat → Nat} {S d : Nat} : las g S d = true ↔ S.testBit d = true ∧ ∀ e, e < 8 → S.testBit e = true → (g e).testBit d = false := by
  unfold las
  rw [Bool.and_eq_true, mtB_iff]
  constructor
  · rintro ⟨h1, h2⟩
    refine ⟨h1, fun e he hs => ?_⟩
    have := h2 e (by omega) (by omega)
    rw [hs] at this
    simpa using this
  · rintro ⟨h1, h2⟩
    refine ⟨h1, fun e _ he => ?_⟩
    cases hs : S.testBit e with
    | false => rfl
    | true => rw [h2 e (by omega) hs]; rfl
def fA (g : Nat → Nat) : Nat → Nat → Int32
  | 0, _ => 1
  | n + 1, S => sm (fun c => if may g S c = true then fA g n (clr S c) else 0) 8
def fB (g : Nat → Nat) : Nat → Nat → Int32
  | 0, _ => 1
  | n + 1, S => sm (fun c => if las g S c = true then fB g n (clr S c) else 0) 8
theorem clr_comm {S : Nat} (hS : S < 256) (c d : Nat) : clr (clr S c) d = clr (clr S d) c := by
  refine set_ext (clr_lt (clr_lt hS)) (clr_lt (clr_lt hS)) (fun e he => ?_)
  rw [clr_bit _ _ he, clr_bit _ _ he, clr_bit _ _ he, clr_bit _ _ he, Bool.and_assoc, Bool.and_assoc, Bool.and_comm (!decide (c = e))]
theorem clr_mem {S c d : Nat} (hd : d < 8) : (clr S c).testBit d = true ↔ S.testBit d = true ∧ c ≠ d := by
  rw [clr_bit S c hd, Bool.and_eq_true, Bool.not_eq_true', decide_eq_false_iff_not]
theorem pair {g : Nat → Nat} {S c d : Nat} (hS : S < 256) (hc : c < 8) (hd : d < 8) : (may g S c = true ∧ las g (clr S c) d = true) ↔ (las g S d = true ∧ may g (clr S d) c = true) := by
  rw [may_iff hS, las_iff, las_iff, may_iff (clr_lt hS)]
  constructor
  · rintro ⟨⟨a1, a2⟩, b1, b2⟩
    have b1' := (clr_mem hd).mp b1
    refine ⟨⟨b1'.1, fun e he hs => ?_⟩, (clr_mem hc).mpr ⟨a1, fun q => b1'.2 q.symm⟩, fun e he hs => a2 e he ((clr_mem he).mp hs).1⟩
    by_cases q : c = e
    · subst q
      exact a2 d hd b1'.1
    · exact b2 e he ((clr_mem he).mpr ⟨hs, q⟩)
  · rintro ⟨⟨a1, a2⟩, b1, b2⟩
    have b1' := (clr_mem hc).mp b1
    refine ⟨⟨b1'.1, fun e he hs => ?_⟩, (clr_mem hd).mpr ⟨a1, fun q => b1'.2 q.symm⟩, fun e he hs => a2 e he ((clr_mem he).mp hs).1⟩
    by_cases q : d = e
    · subst q
      exact a2 c hc b1'.1
    · exact b2 e he ((clr_mem he).mpr ⟨hs, q⟩)
theorem may_las1 {g : Nat → Nat} {S c : Nat} (hS : S < 256) (hp : pcn S = 1) (hc : c < 8) : (may g S c = true) ↔ (las g S c = true) := by
  rw [may_iff hS, las_iff]
  have one : S.testBit c = true → ∀ d, d < 8 → S.testBit d = true → d = c := by
    intro h1 d hd hs
    have p := pcn_clr S hS c hc h1
    have z := (pcn_0 (clr S c) (clr_lt hS)).mp (by omega)
    refine Classical.byContradiction (fun q => ?_)
    have := (clr_mem (S := S) (c := c) hd).mpr ⟨hs, fun e => q e.symm⟩
    rw [z, Nat.zero_testBit] at this
    cases this
  constructor
  · rintro ⟨h1, h2⟩
    exact ⟨h1, fun e he hs => by rw [one h1 e he hs]; exact h2 c hc h1⟩
  · rintro ⟨h1, h2⟩
    exact ⟨h1, fun e he hs => by rw [one h1 e he hs]; exact h2 c hc h1⟩
theorem AB (g : Nat → Nat) : ∀ n, (∀ S, S < 256 → pcn S = n → fA g n S = fB g n S) ∧ (∀ S, S < 256 → pcn S = n + 1 → fA g (n + 1) S = fB g (n + 1) S) := by
  intro n
  induction n with
  | zero =>
    refine ⟨fun S _ _ => rfl, fun S hS hp => ?_⟩
    rw [fA, fB]
    refine sm_congr 8 (fun c hc => ?_)
    have := may_las1 (g := g) hS hp hc
    by_cases q : may g S c = true
    · rw [if_pos q, if_pos (this.mp q)]; rfl
    · rw [if_neg q, if_neg (fun r => q (this.mpr r))]
  | succ n ih =>
    refine ⟨ih.2, fun S hS hp => ?_⟩
    have e1 : fA g (n + 1 + 1) S = sm (fun c => sm (fun d => if may g S c = true ∧ las g (clr S c) d = true then fB g n (clr (clr S c) d) else 0) 8) 8 := by
      rw [fA]
      refine sm_congr 8 (fun c hc => ?_)
      by_cases q : may g S c = true
      · rw [if_pos q, ih.2 (clr S c) (clr_lt hS) (by have := pcn_clr S hS c hc ((may_iff hS).mp q).1; omega), fB]
        refine sm_congr 8 (fun d hd => ?_)
        simp only [q, true_and]
      · rw [if_neg q]
        simp only [q, false_and, if_false]
        exact (sm_zero 8).symm
    have e2 : fB g (n + 1 + 1) S = sm (fun d => sm (fun c => if las g S d = true ∧ may g (clr S d) c = true then fA g n (clr (clr S d) c) else 0) 8) 8 := by
      rw [fB]
      refine sm_congr 8 (fun d hd => ?_)
      by_cases q : las g S d = true
      · rw [if_pos q, ← ih.2 (clr S d) (clr_lt hS) (by have := pcn_clr S hS d hd (las_iff.mp q).1; omega), fA]
        refine sm_congr 8 (fun c hc => ?_)
        simp only [q, true_and]
      · rw [if_neg q]
        simp only [q, false_and, if_false]
        exact (sm_zero 8).symm
    rw [e1, e2, sm_swap]
    refine sm_congr 8 (fun d hd => sm_congr 8 (fun c hc => ?_))
    have pr := pair (g := g) hS hc hd
    by_cases q : may g S c = true ∧ las g (clr S c) d = true
    · rw [if_pos q, if_pos (pr.mp q), clr_comm hS c d]
      have h1 := pcn_clr S hS c hc ((may_iff hS).mp q.1).1
      have h2 := pcn_clr (clr S c) (clr_lt hS) d hd (las_iff.mp q.2).1
      rw [clr_comm hS c d] at h2
      exact (ih.1 _ (clr_lt (clr_lt hS)) (by omega)).symm
    · rw [if_neg q, if_neg (fun r => q (pr.mpr r))]
theorem AB_ (g : Nat → Nat) {S : Nat} (hS : S < 256) : fA g (pcn S) S = fB g (pcn S) S := (AB g (pcn S)).1 S hS rfl
/-- a sum as a loop goes -/
def smL (f : Nat → Int32) : Nat → Nat → Int32 → Int32
  | 0, _, a => a
  | m + 1, i, a => smL f m (i + 1) (a + f i)
theorem smL_sm (f : Nat → Int32) : smL f 8 0 0 = sm f 8 := rfl
theorem clr_self {T c : Nat} (hc : c < 8) (h : T.testBit c = true) : clr T c < T := by
  refine Nat.lt_of_le_of_ne Nat.and_le_left (fun e => ?_)
  have := (clr_mem (S := T) (c := c) hc).mp (by rw [e]; exact h)
  exact this.2 rfl
theorem clr_sub {T S c : Nat} (h : sub8 T S) : sub8 (clr T c) S := fun d hd q => h d hd ((clr_mem hd).mp q).1
theorem CW_fr {w u : zH} {g : Nat → Nat} {a : Nat} (C : CW w g) (hf : zFr [a] [] w u) (h1 : a ≠ 10 ∧ a ≠ 55) : CW u g := by
  refine ⟨hf.sh C.1, fun c hc => ?_⟩
  rw [hf.hga (by simp; omega) (by rfl), hf.hga (by simp; omega) (by rfl)]
  exact C.2 c hc
theorem k_ordersOf_loop {u : zH} {g : Nat → Nat} (C : CW u g) {T : Nat} (hT : T < 256) {V : Nat → Int32} (hV : ∀ c, c < 8 → may g T c = true → ga u 11 (clr T c) = V (clr T c)) : ∀ (m i : Nat) (acc : Int32), i + m = 8 → zrun none (30, 4, [.ref 9, .int (nI T), .int acc, .int (nI i)], [], u) = some (some (.int (smL (fun c => if may g T c = true then V (clr T c) else 0) m i acc)), u) := by
  have h := C.1
  intro m
  induction m with
  | zero =>
    intro i acc hi
    have q1 : (8 : Int32) ≤ nI i := nI_le (a := 8) (by omega) (by omega)
    rw [e30_4]
    simp (disch := first | exact Nat.le_of_ble_eq_true rfl | exact zct_i _ | exact zct_r _ | exact zct_J | exact zct_n | with_reducible assumption | (with_reducible show (zf _ _ _).isSome = true; exact Sh.some (by repeat first | with_reducible assumption | (with_reducible refine Sh.pf ?_ ?_; rotate_left 1; exact fun _ => by decide +kernel) | (with_reducible refine Sh.as ?_ ?_; rotate_left 1; exact fun _ => by decide +kernel) | (with_reducible refine Sh.asr ?_ ?_; rotate_left 1; exact fun _ => by decide +kernel) | with_reducible refine Sh.push ?_ | (with_reducible refine Sh.pfn ?_ ?_; rotate_left 1; omega) | (with_reducible refine Sh.asn ?_ ?_; rotate_left 1; omega)) (by decide) (by decide +kernel) (by decide +kernel)) | exact rfl | exact zb01 _ | decide | fail) only [e30_0, e30_1, e30_2, e30_3, e30_5, e30_7, e30_10, e30_11, e30_12, e30_13, e30_16, e30_19, e30_20, e30_21, e30_24, e30_25, e30_26, e30_27, e30_28, e30_29, e30_30, e30_31, e30_32, e30_33, e30_34, e30_37, e30_40, e30_41, zgd_true, zcl_ite, zX, Nat.reduceLT, Option.isSome_some, true_and, and_true, zo_some, zoi_some, zon_some, zcl_some, Option.toList_some, Option.toList_none, List.cons_append, List.nil_append, ite_true, ite_false, ↓reduceIte, z10, eq_self, not_true_eq_false, not_false_eq_true, and_self, or_true, true_or, q1, smL]
  | succ m ih =>
    intro i acc hi
    have hi8 : i < 8 := by omega
    have km := k_may C hT hi8
    have ih1 := fun a => ih (i + 1) a (by omega)
    have cl : clr T i < 256 := clr_lt hT
    rw [e30_4]
    by_cases e : may g T i = true
    · have v := hV i hi8 e
      simp (disch := first | exact Nat.le_of_ble_eq_true rfl | exact zct_i _ | exact zct_r _ | exact zct_J | exact zct_n | with_reducible assumption | (with_reducible show (zf _ _ _).isSome = true; exact Sh.some (by repeat first | with_reducible assumption | (with_reducible refine Sh.pf ?_ ?_; rotate_left 1; exact fun _ => by decide +kernel) | (with_reducible refine Sh.as ?_ ?_; rotate_left 1; exact fun _ => by decide +kernel) | (with_reducible refine Sh.asr ?_ ?_; rotate_left 1; exact fun _ => by decide +kernel) | with_reducible refine Sh.push ?_ | (with_reducible refine Sh.pfn ?_ ?_; rotate_left 1; omega) | (with_reducible refine Sh.asn ?_ ?_; rotate_left 1; omega)) (by decide) (by decide +kernel) (by decide +kernel)) | exact rfl | exact zb01 _ | decide | fail) only [e30_0, e30_1, e30_2, e30_3, e30_5, e30_7, e30_10, e30_11, e30_12, e30_13, e30_16, e30_19, e30_20, e30_21, e30_24, e30_25, e30_26, e30_27, e30_28, e30_29, e30_30, e30_31, e30_32, e30_33, e30_34, e30_37, e30_40, e30_41, zgd_true, zcl_ite, zX, Nat.reduceLT, Option.isSome_some, true_and, and_true, zo_some, zoi_some, zon_some, zcl_some, Option.toList_some, Option.toList_none, List.cons_append, List.nil_append, ite_true, ite_false, ↓reduceIte, z10, eq_self, not_true_eq_false, not_false_eq_true, and_self, or_true, true_or, i_9 h, f_9_600 h, f_9_601 h, f_9_602 h, A_11 h, N_11 h, Gt_8, km, e, nclr T hT i hi8, v, nI_1, ih1, smL]
    · simp (disch := first | exact Nat.le_of_ble_eq_true rfl | exact zct_i _ | exact zct_r _ | exact zct_J | exact zct_n | with_reducible assumption | (with_reducible show (zf _ _ _).isSome = true; exact Sh.some (by repeat first | with_reducible assumption | (with_reducible refine Sh.pf ?_ ?_; rotate_left 1; exact fun _ => by decide +kernel) | (with_reducible refine Sh.as ?_ ?_; rotate_left 1; exact fun _ => by decide +kernel) | (with_reducible refine Sh.asr ?_ ?_; rotate_left 1; exact fun _ => by decide +kernel) | with_reducible refine Sh.push ?_ | (with_reducible refine Sh.pfn ?_ ?_; rotate_left 1; omega) | (with_reducible refine Sh.asn ?_ ?_; rotate_left 1; omega)) (by decide) (by decide +kernel) (by decide +kernel)) | exact rfl | exact zb01 _ | decide | fail) only [e30_0, e30_1, e30_2, e30_3, e30_5, e30_7, e30_10, e30_11, e30_12, e30_13, e30_16, e30_19, e30_20, e30_21, e30_24, e30_25, e30_26, e30_27, e30_28, e30_29, e30_30, e30_31, e30_32, e30_33, e30_34, e30_37, e30_40, e30_41, zgd_true, zcl_ite, zX, Nat.reduceLT, Option.isSome_some, true_and, and_true, zo_some, zoi_some, zon_some, zcl_some, Option.toList_some, Option.toList_none, List.cons_append, List.nil_append, ite_true, ite_false, ↓reduceIte, z10, eq_self, not_true_eq_false, not_false_eq_true, and_self, or_true, true_or, i_9 h, f_9_600 h, f_9_601 h, f_9_602 h, Gt_8, km, e, nI_1, ih1, smL, Bool.false_eq_true, Int32.add_zero]
theorem sub_and {T S : Nat} (hT : T < 256) : T &&& (255 ^^^ S) = 0 ↔ sub8 T S := by
  rw [set_nil (Nat.lt_of_le_of_lt Nat.and_le_left hT)]
  have b : ∀ d, d < 8 → (T &&& (255 ^^^ S)).testBit d = (T.testBit d && !S.testBit d) := by
    intro d hd
    rw [Nat.testBit_and, Nat.testBit_xor, show (255 : Nat) = 2 ^ 8 - 1 from rfl, Nat.testBit_two_pow_sub_one]
    simp [hd]
  constructor
  · intro hh d hd ht
    have := hh d hd
    rw [b d hd, ht] at this
    simpa using this
  · intro hh d hd
    rw [b d hd]
    cases ht : T.testBit d with
    | false => rfl
    | true => rw [hh d hd ht]; rfl
theorem k_rows_loop {w : zH} {g : Nat → Nat} (C : CW w g) {S : Nat} (hS : S < 256) : ∀ (m T : Nat) (u : zH), T + m = S + 1 → 1 ≤ T → zFr [11] [] w u → (∀ R, R < T → sub8 R S → ga u 11 R = fA g (pcn R) R) → ∃ u', zFr [11] [] w u' ∧ zrun none (29, 9, [.ref 9, .int (nI S), .int (nI T)], [], u) = some (some (.int (fA g (pcn S) S)), u') := by
  intro m
  induction m with
  | zero =>
    intro T u hT h1 hf hv
    have hU := hf.sh C.1
    have q1 : nI S < nI T := nI_lt (by omega) (by omega)
    have q2 : 0 ≤ nI S ∧ nI S ≤ 255 := ⟨nI_pos' (by omega), nI_le (b := 255) (by omega) (by decide)⟩
    refine ⟨u, hf, ?_⟩
    have v := hv S (by omega) (fun _ _ q => q)
    rw [e29_9]
    simp (disch := first | exact Nat.le_of_ble_eq_true rfl | exact zct_i _ | exact zct_r _ | exact zct_J | exact zct_n | with_reducible assumption | (with_reducible show (zf _ _ _).isSome = true; exact Sh.some (by repeat first | with_reducible assumption | (with_reducible refine Sh.pf ?_ ?_; rotate_left 1; exact fun _ => by decide +kernel) | (with_reducible refine Sh.as ?_ ?_; rotate_left 1; exact fun _ => by decide +kernel) | (with_reducible refine Sh.asr ?_ ?_; rotate_left 1; exact fun _ => by decide +kernel) | with_reducible refine Sh.push ?_ | (with_reducible refine Sh.pfn ?_ ?_; rotate_left 1; omega) | (with_reducible refine Sh.asn ?_ ?_; rotate_left 1; omega)) (by decide) (by decide +kernel) (by decide +kernel)) | exact rfl | exact zb01 _ | decide | fail) only [e29_0, e29_1, e29_4, e29_5, e29_6, e29_7, e29_8, e29_10, e29_11, e29_14, e29_15, e29_18, e29_21, e29_22, e29_23, e29_24, e29_25, e29_26, e29_29, e29_30, e29_33, e29_34, e29_35, e29_36, e29_39, e29_40, e29_43, e29_46, e29_47, e29_48, e29_51, e29_54, e29_57, e29_58, e29_61, e29_62, e29_63, e29_66, e29_67, zgd_true, zcl_ite, zX, Nat.reduceLT, Option.isSome_some, true_and, and_true, zo_some, zoi_some, zon_some, zcl_some, Option.toList_some, Option.toList_none, List.cons_append, List.nil_append, ite_true, ite_false, ↓reduceIte, z10, eq_self, not_true_eq_false, not_false_eq_true, and_self, or_true, true_or, i_9 hU, f_9_600 hU, f_9_601 hU, f_9_602 hU, A_11 hU, N_11 hU, q1, k_within, q2, v]
  | succ m ih =>
    intro T u hT h1 hf hv
    have hU := hf.sh C.1
    have CU := CW_fr C hf (by decide)
    have q1 : ¬ nI S < nI T := nI_nlt (by omega) (by omega)
    have hT6 : T < 256 := by omega
    have nx := nxor T S hT6
    by_cases hs : sub8 T S
    · have z : nI (T &&& (255 ^^^ S)) = 0 := by rw [(sub_and hT6).mpr hs]; rfl
      have ko := k_ordersOf_loop CU hT6 (V := fun R => fA g (pcn R) R) (fun c hc hm => hv (clr T c) (clr_self hc ((may_iff hT6).mp hm).1) (clr_sub hs)) 8 0 0 (by omega)
      rw [smL_sm] at ko
      have eT : sm (fun c => if may g T c = true then fA g (pcn (clr T c)) (clr T c) else 0) 8 = fA g (pcn T) T := by
        obtain ⟨p, hp⟩ : ∃ p, pcn T = p + 1 := ⟨pcn T - 1, by have := (pcn_0 T hT6); omega⟩
        rw [hp, fA]
        refine sm_congr 8 (fun c hc => ?_)
        by_cases e : may g T c = true
        · have := pcn_clr T hT6 c hc ((may_iff hT6).mp e).1
          rw [if_pos e, if_pos e, show pcn (clr T c) = p by omega]
        · rw [if_neg e, if_neg e]
      rw [eT] at ko
      simp only [nI_0] at ko
      have hf1 : zFr [11] [] w (zas u 11 (nI T) (.int (fA g (pcn T) T))) := hf.as (by decide) (by decide +kernel)
      obtain ⟨u', f', e'⟩ := ih (T + 1) _ (by omega) (by omega) hf1 (fun R hR hs2 => by
        rw [ga_asn (L_11 hU hT6)]
        by_cases e : T = R
        · rw [if_pos e, e]
        · rw [if_neg e]
          exact hv R (by omega) hs2)
      refine ⟨u', f', ?_⟩
      rw [e29_9]
      simp (disch := first | exact Nat.le_of_ble_eq_true rfl | exact zct_i _ | exact zct_r _ | exact zct_J | exact zct_n | with_reducible assumption | (with_reducible show (zf _ _ _).isSome = true; exact Sh.some (by repeat first | with_reducible assumption | (with_reducible refine Sh.pf ?_ ?_; rotate_left 1; exact fun _ => by decide +kernel) | (with_reducible refine Sh.as ?_ ?_; rotate_left 1; exact fun _ => by decide +kernel) | (with_reducible refine Sh.asr ?_ ?_; rotate_left 1; exact fun _ => by decide +kernel) | with_reducible refine Sh.push ?_ | (with_reducible refine Sh.pfn ?_ ?_; rotate_left 1; omega) | (with_reducible refine Sh.asn ?_ ?_; rotate_left 1; omega)) (by decide) (by decide +kernel) (by decide +kernel)) | exact rfl | exact zb01 _ | decide | fail) only [e29_0, e29_1, e29_4, e29_5, e29_6, e29_7, e29_8, e29_10, e29_11, e29_14, e29_15, e29_18, e29_21, e29_22, e29_23, e29_24, e29_25, e29_26, e29_29, e29_30, e29_33, e29_34, e29_35, e29_36, e29_39, e29_40, e29_43, e29_46, e29_47, e29_48, e29_51, e29_54, e29_57, e29_58, e29_61, e29_62, e29_63, e29_66, e29_67, e30_0, e30_1, e30_2, e30_3, zgd_true, zcl_ite, zX, Nat.reduceLT, Option.isSome_some, true_and, and_true, zo_some, zoi_some, zon_some, zcl_some, Option.toList_some, Option.toList_none, List.cons_append, List.nil_append, ite_true, ite_false, ↓reduceIte, z10, eq_self, not_true_eq_false, not_false_eq_true, and_self, or_true, true_or, i_9 hU, f_9_600 hU, f_9_601 hU, f_9_602 hU, A_11 hU, N_11 hU, q1, Gt_256, nx, z, ko, nI_1, e']
    · have z : ¬ nI (T &&& (255 ^^^ S)) = 0 := nI_ne0 (Nat.pos_of_ne_zero (fun q => hs ((sub_and hT6).mp q))) (Nat.lt_of_le_of_lt Nat.and_le_left (by omega))
      obtain ⟨u', f', e'⟩ := ih (T + 1) u (by omega) (by omega) hf (fun R hR hs2 => by
        by_cases e : T = R
        · exact absurd (by rw [e]; exact hs2) hs
        · exact hv R (by omega) hs2)
      refine ⟨u', f', ?_⟩
      rw [e29_9]
      simp (disch := first | exact Nat.le_of_ble_eq_true rfl | exact zct_i _ | exact zct_r _ | exact zct_J | exact zct_n | with_reducible assumption | (with_reducible show (zf _ _ _).isSome = true; exact Sh.some (by repeat first | with_reducible assumption | (with_reducible refine Sh.pf ?_ ?_; rotate_left 1; exact fun _ => by decide +kernel) | (with_reducible refine Sh.as ?_ ?_; rotate_left 1; exact fun _ => by decide +kernel) | (with_reducible refine Sh.asr ?_ ?_; rotate_left 1; exact fun _ => by decide +kernel) | with_reducible refine Sh.push ?_ | (with_reducible refine Sh.pfn ?_ ?_; rotate_left 1; omega) | (with_reducible refine Sh.asn ?_ ?_; rotate_left 1; omega)) (by decide) (by decide +kernel) (by decide +kernel)) | exact rfl | exact zb01 _ | decide | fail) only [e29_0, e29_1, e29_4, e29_5, e29_6, e29_7, e29_8, e29_10, e29_11, e29_14, e29_15, e29_18, e29_21, e29_22, e29_23, e29_24, e29_25, e29_26, e29_29, e29_30, e29_33, e29_34, e29_35, e29_36, e29_39, e29_40, e29_43, e29_46, e29_47, e29_48, e29_51, e29_54, e29_57, e29_58, e29_61, e29_62, e29_63, e29_66, e29_67, zgd_true, zcl_ite, zX, Nat.reduceLT, Option.isSome_some, true_and, and_true, zo_some, zoi_some, zon_some, zcl_some, Option.toList_some, Option.toList_none, List.cons_append, List.nil_append, ite_true, ite_false, ↓reduceIte, z10, eq_self, not_true_eq_false, not_false_eq_true, and_self, or_true, true_or, i_9 hU, f_9_600 hU, f_9_601 hU, f_9_602 hU, q1, Gt_256, nx, z, nI_1, e']
theorem k_rows {w : zH} {g : Nat → Nat} (C : CW w g) {S : Nat} (hS : S < 256) : ∃ u', zFr [11] [] w u' ∧ zrun none (29, 0, [.ref 9, .int (nI S), zJ], [], w) = some (some (.int (fA g (pcn S) S)), u') := by
  have h := C.1
  have h0 : (0 : Nat) < 256 := by decide
  have hf : zFr [11] [] w (zas w 11 (nI 0) (.int 1)) := zFr.refl.as (by decide) (by decide +kernel)
  obtain ⟨u', f', e'⟩ := k_rows_loop C hS S 1 _ (by omega) (by omega) hf (fun R hR _ => by
    have : R = 0 := by omega
    subst this
    rw [ga_asn (L_11 h h0), if_pos rfl]
    rfl)
  refine ⟨u', f', ?_⟩
  have n0 := N_11 h h0
  simp only [nI_0] at n0 e'
  simp (disch := first | exact Nat.le_of_ble_eq_true rfl | exact zct_i _ | exact zct_r _ | exact zct_J | exact zct_n | with_reducible assumption | (with_reducible show (zf _ _ _).isSome = true; exact Sh.some (by repeat first | with_reducible assumption | (with_reducible refine Sh.pf ?_ ?_; rotate_left 1; exact fun _ => by decide +kernel) | (with_reducible refine Sh.as ?_ ?_; rotate_left 1; exact fun _ => by decide +kernel) | (with_reducible refine Sh.asr ?_ ?_; rotate_left 1; exact fun _ => by decide +kernel) | with_reducible refine Sh.push ?_ | (with_reducible refine Sh.pfn ?_ ?_; rotate_left 1; omega) | (with_reducible refine Sh.asn ?_ ?_; rotate_left 1; omega)) (by decide) (by decide +kernel) (by decide +kernel)) | exact rfl | exact zb01 _ | decide | fail) only [e29_0, e29_1, e29_4, e29_5, e29_6, e29_7, e29_8, e29_10, e29_11, e29_14, e29_15, e29_18, e29_21, e29_22, e29_23, e29_24, e29_25, e29_26, e29_29, e29_30, e29_33, e29_34, e29_35, e29_36, e29_39, e29_40, e29_43, e29_46, e29_47, e29_48, e29_51, e29_54, e29_57, e29_58, e29_61, e29_62, e29_63, e29_66, e29_67, zgd_true, zcl_ite, zX, Nat.reduceLT, Option.isSome_some, true_and, and_true, zo_some, zoi_some, zon_some, zcl_some, Option.toList_some, Option.toList_none, List.cons_append, List.nil_append, ite_true, ite_false, ↓reduceIte, z10, eq_self, not_true_eq_false, not_false_eq_true, and_self, or_true, true_or, i_9 h, f_9_600 h, f_9_601 h, f_9_602 h, n0]
  exact e'
theorem m_rows_d {u : zH} {g : Nat → Nat} (C : CW u g) {S T c : Nat} (hT : T < 256) (hc : c < 8) : ∀ (m i : Nat) (s : Bool), i + m = 8 → zrun none (189, 48, [.ref 35, .int (nI S), .int (nI T), .int (nI c), .int (if s = true then 1 else 0), .int (nI i)], [], u) = zrun none (189, 96, [.ref 35, .int (nI S), .int (nI T), .int (nI c), .int (if (s && mtB (fun e => !T.testBit e || !(g e).testBit c) m i) = true then 1 else 0), .int (nI 8)], [], u) := by
  have h := C.1
  intro m
  induction m with
  | zero =>
    intro i s hi
    have e8 : i = 8 := by omega
    subst e8
    have q1 : (8 : Int32) ≤ nI 8 := by decide
    rw [e189_48]
    simp (disch := first | exact Nat.le_of_ble_eq_true rfl | exact zct_i _ | exact zct_r _ | exact zct_J | exact zct_n | with_reducible assumption | (with_reducible show (zf _ _ _).isSome = true; exact Sh.some (by repeat first | with_reducible assumption | (with_reducible refine Sh.pf ?_ ?_; rotate_left 1; exact fun _ => by decide +kernel) | (with_reducible refine Sh.as ?_ ?_; rotate_left 1; exact fun _ => by decide +kernel) | (with_reducible refine Sh.asr ?_ ?_; rotate_left 1; exact fun _ => by decide +kernel) | with_reducible refine Sh.push ?_ | (with_reducible refine Sh.pfn ?_ ?_; rotate_left 1; omega) | (with_reducible refine Sh.asn ?_ ?_; rotate_left 1; omega)) (by decide) (by decide +kernel) (by decide +kernel)) | exact rfl | exact zb01 _ | decide | fail) only [e189_50, e189_52, e189_55, e189_57, e189_60, e189_61, e189_63, e189_64, e189_65, e189_66, e189_69, e189_70, e189_73, e189_75, e189_76, e189_77, e189_78, e189_79, e189_80, e189_83, e189_84, e189_87, e189_88, e189_90, e189_93, zgd_true, zcl_ite, zX, Nat.reduceLT, Option.isSome_some, true_and, and_true, zo_some, zoi_some, zon_some, zcl_some, Option.toList_some, Option.toList_none, List.cons_append, List.nil_append, ite_true, ite_false, ↓reduceIte, z10, eq_self, not_true_eq_false, not_false_eq_true, and_self, or_true, true_or, q1, mtB, Bool.and_true]
  | succ m ih =>
    intro i s hi
    have hi8 : i < 8 := by omega
    obtain ⟨-, e2, e3⟩ := C.2 i hi8
    have b := zbt0 T hT i hi8
    have b2 := zbt0 (g i) e3 c hc
    have ihT := ih (i + 1) true (by omega)
    have ihF := ih (i + 1) false (by omega)
    simp only [if_true, Bool.true_and, Bool.false_and, Bool.false_eq_true, if_false] at ihT ihF
    rw [e189_48]
    cases s with
    | false =>
      simp only [Bool.false_eq_true, if_false, Bool.false_and]
      simp (disch := first | exact Nat.le_of_ble_eq_true rfl | exact zct_i _ | exact zct_r _ | exact zct_J | exact zct_n | with_reducible assumption | (with_reducible show (zf _ _ _).isSome = true; exact Sh.some (by repeat first | with_reducible assumption | (with_reducible refine Sh.pf ?_ ?_; rotate_left 1; exact fun _ => by decide +kernel) | (with_reducible refine Sh.as ?_ ?_; rotate_left 1; exact fun _ => by decide +kernel) | (with_reducible refine Sh.asr ?_ ?_; rotate_left 1; exact fun _ => by decide +kernel) | with_reducible refine Sh.push ?_ | (with_reducible refine Sh.pfn ?_ ?_; rotate_left 1; omega) | (with_reducible refine Sh.asn ?_ ?_; rotate_left 1; omega)) (by decide) (by decide +kernel) (by decide +kernel)) | exact rfl | exact zb01 _ | decide | fail) only [e189_50, e189_52, e189_55, e189_57, e189_60, e189_61, e189_63, e189_64, e189_65, e189_66, e189_69, e189_70, e189_73, e189_75, e189_76, e189_77, e189_78, e189_79, e189_80, e189_83, e189_84, e189_87, e189_88, e189_90, e189_93, zgd_true, zcl_ite, zX, Nat.reduceLT, Option.isSome_some, true_and, and_true, zo_some, zoi_some, zon_some, zcl_some, Option.toList_some, Option.toList_none, List.cons_append, List.nil_append, ite_true, ite_false, ↓reduceIte, z10, eq_self, not_true_eq_false, not_false_eq_true, and_self, or_true, true_or, i_35 h, f_35_1200 h, f_35_1201 h, f_35_1202 h, f_35_1203 h, f_35_1204 h, f_35_1205 h, f_35_1206 h, f_35_1207 h, f_35_1208 h, f_35_1209 h, f_35_1210 h, f_35_1211 h, f_35_1212 h, f_35_1213 h, f_35_1214 h, f_35_1215 h, f_35_1216 h, f_35_1217 h, f_35_1218 h, f_35_1219 h, f_35_1220 h, f_35_1221 h, f_35_1222 h, f_35_1223 h, f_35_1224 h, f_35_1225 h, f_35_1226 h, f_35_1227 h, f_35_1228 h, f_35_1229 h, f_35_1230 h, f_35_1231 h, f_35_1232 h, f_35_1233 h, f_35_1234 h, f_35_1235 h, f_35_1236 h, f_35_1237 h, f_35_1238 h, f_35_1239 h, f_35_1240 h, f_35_1241 h, f_35_1242 h, f_35_1243 h, f_35_1244 h, f_35_1245 h, f_35_1246 h, f_35_1247 h, f_35_1248 h, f_35_1249 h, f_35_1250 h, Gt_8, nI_1, ihF]
    | true =>
      simp only [if_true, Bool.true_and]
      cases hb : T.testBit i with
      | false =>
        have q := b.mpr hb
        simp (disch := first | exact Nat.le_of_ble_eq_true rfl | exact zct_i _ | exact zct_r _ | exact zct_J | exact zct_n | with_reducible assumption | (with_reducible show (zf _ _ _).isSome = true; exact Sh.some (by repeat first | with_reducible assumption | (with_reducible refine Sh.pf ?_ ?_; rotate_left 1; exact fun _ => by decide +kernel) | (with_reducible refine Sh.as ?_ ?_; rotate_left 1; exact fun _ => by decide +kernel) | (with_reducible refine Sh.asr ?_ ?_; rotate_left 1; exact fun _ => by decide +kernel) | with_reducible refine Sh.push ?_ | (with_reducible refine Sh.pfn ?_ ?_; rotate_left 1; omega) | (with_reducible refine Sh.asn ?_ ?_; rotate_left 1; omega)) (by decide) (by decide +kernel) (by decide +kernel)) | exact rfl | exact zb01 _ | decide | fail) only [e189_50, e189_52, e189_55, e189_57, e189_60, e189_61, e189_63, e189_64, e189_65, e189_66, e189_69, e189_70, e189_73, e189_75, e189_76, e189_77, e189_78, e189_79, e189_80, e189_83, e189_84, e189_87, e189_88, e189_90, e189_93, zgd_true, zcl_ite, zX, Nat.reduceLT, Option.isSome_some, true_and, and_true, zo_some, zoi_some, zon_some, zcl_some, Option.toList_some, Option.toList_none, List.cons_append, List.nil_append, ite_true, ite_false, ↓reduceIte, z10, eq_self, not_true_eq_false, not_false_eq_true, and_self, or_true, true_or, i_35 h, f_35_1200 h, f_35_1201 h, f_35_1202 h, f_35_1203 h, f_35_1204 h, f_35_1205 h, f_35_1206 h, f_35_1207 h, f_35_1208 h, f_35_1209 h, f_35_1210 h, f_35_1211 h, f_35_1212 h, f_35_1213 h, f_35_1214 h, f_35_1215 h, f_35_1216 h, f_35_1217 h, f_35_1218 h, f_35_1219 h, f_35_1220 h, f_35_1221 h, f_35_1222 h, f_35_1223 h, f_35_1224 h, f_35_1225 h, f_35_1226 h, f_35_1227 h, f_35_1228 h, f_35_1229 h, f_35_1230 h, f_35_1231 h, f_35_1232 h, f_35_1233 h, f_35_1234 h, f_35_1235 h, f_35_1236 h, f_35_1237 h, f_35_1238 h, f_35_1239 h, f_35_1240 h, f_35_1241 h, f_35_1242 h, f_35_1243 h, f_35_1244 h, f_35_1245 h, f_35_1246 h, f_35_1247 h, f_35_1248 h, f_35_1249 h, f_35_1250 h, Gt_8, q, nI_1, ihT, mtB, hb, Bool.not_false, Bool.true_or, Bool.true_and]
      | true =>
        have q : ¬ (nI T >>> (nI i &&& 31)) &&& 1 = 0 := fun s => by rw [b.mp s] at hb; cases hb
        cases hg : (g i).testBit c with
        | false =>
          have q2 := b2.mpr hg
          simp (disch := first | exact Nat.le_of_ble_eq_true rfl | exact zct_i _ | exact zct_r _ | exact zct_J | exact zct_n | with_reducible assumption | (with_reducible show (zf _ _ _).isSome = true; exact Sh.some (by repeat first | with_reducible assumption | (with_reducible refine Sh.pf ?_ ?_; rotate_left 1; exact fun _ => by decide +kernel) | (with_reducible refine Sh.as ?_ ?_; rotate_left 1; exact fun _ => by decide +kernel) | (with_reducible refine Sh.asr ?_ ?_; rotate_left 1; exact fun _ => by decide +kernel) | with_reducible refine Sh.push ?_ | (with_reducible refine Sh.pfn ?_ ?_; rotate_left 1; omega) | (with_reducible refine Sh.asn ?_ ?_; rotate_left 1; omega)) (by decide) (by decide +kernel) (by decide +kernel)) | exact rfl | exact zb01 _ | decide | fail) only [e189_50, e189_52, e189_55, e189_57, e189_60, e189_61, e189_63, e189_64, e189_65, e189_66, e189_69, e189_70, e189_73, e189_75, e189_76, e189_77, e189_78, e189_79, e189_80, e189_83, e189_84, e189_87, e189_88, e189_90, e189_93, zgd_true, zcl_ite, zX, Nat.reduceLT, Option.isSome_some, true_and, and_true, zo_some, zoi_some, zon_some, zcl_some, Option.toList_some, Option.toList_none, List.cons_append, List.nil_append, ite_true, ite_false, ↓reduceIte, z10, eq_self, not_true_eq_false, not_false_eq_true, and_self, or_true, true_or, i_35 h, f_35_1200 h, f_35_1201 h, f_35_1202 h, f_35_1203 h, f_35_1204 h, f_35_1205 h, f_35_1206 h, f_35_1207 h, f_35_1208 h, f_35_1209 h, f_35_1210 h, f_35_1211 h, f_35_1212 h, f_35_1213 h, f_35_1214 h, f_35_1215 h, f_35_1216 h, f_35_1217 h, f_35_1218 h, f_35_1219 h, f_35_1220 h, f_35_1221 h, f_35_1222 h, f_35_1223 h, f_35_1224 h, f_35_1225 h, f_35_1226 h, f_35_1227 h, f_35_1228 h, f_35_1229 h, f_35_1230 h, f_35_1231 h, f_35_1232 h, f_35_1233 h, f_35_1234 h, f_35_1235 h, f_35_1236 h, f_35_1237 h, f_35_1238 h, f_35_1239 h, f_35_1240 h, f_35_1241 h, f_35_1242 h, f_35_1243 h, f_35_1244 h, f_35_1245 h, f_35_1246 h, f_35_1247 h, f_35_1248 h, f_35_1249 h, f_35_1250 h, A_55 h, N_55 h, Gt_8, q, e2, q2, nI_1, ihT, mtB, hb, hg, Bool.not_false, Bool.not_true, Bool.or_true, Bool.true_and]
        | true =>
          have q2 : ¬ (nI (g i) >>> (nI c &&& 31)) &&& 1 = 0 := fun s => by rw [b2.mp s] at hg; cases hg
          simp (disch := first | exact Nat.le_of_ble_eq_true rfl | exact zct_i _ | exact zct_r _ | exact zct_J | exact zct_n | with_reducible assumption | (with_reducible show (zf _ _ _).isSome = true; exact Sh.some (by repeat first | with_reducible assumption | (with_reducible refine Sh.pf ?_ ?_; rotate_left 1; exact fun _ => by decide +kernel) | (with_reducible refine Sh.as ?_ ?_; rotate_left 1; exact fun _ => by decide +kernel) | (with_reducible refine Sh.asr ?_ ?_; rotate_left 1; exact fun _ => by decide +kernel) | with_reducible refine Sh.push ?_ | (with_reducible refine Sh.pfn ?_ ?_; rotate_left 1; omega) | (with_reducible refine Sh.asn ?_ ?_; rotate_left 1; omega)) (by decide) (by decide +kernel) (by decide +kernel)) | exact rfl | exact zb01 _ | decide | fail) only [e189_50, e189_52, e189_55, e189_57, e189_60, e189_61, e189_63, e189_64, e189_65, e189_66, e189_69, e189_70, e189_73, e189_75, e189_76, e189_77, e189_78, e189_79, e189_80, e189_83, e189_84, e189_87, e189_88, e189_90, e189_93, zgd_true, zcl_ite, zX, Nat.reduceLT, Option.isSome_some, true_and, and_true, zo_some, zoi_some, zon_some, zcl_some, Option.toList_some, Option.toList_none, List.cons_append, List.nil_append, ite_true, ite_false, ↓reduceIte, z10, eq_self, not_true_eq_false, not_false_eq_true, and_self, or_true, true_or, i_35 h, f_35_1200 h, f_35_1201 h, f_35_1202 h, f_35_1203 h, f_35_1204 h, f_35_1205 h, f_35_1206 h, f_35_1207 h, f_35_1208 h, f_35_1209 h, f_35_1210 h, f_35_1211 h, f_35_1212 h, f_35_1213 h, f_35_1214 h, f_35_1215 h, f_35_1216 h, f_35_1217 h, f_35_1218 h, f_35_1219 h, f_35_1220 h, f_35_1221 h, f_35_1222 h, f_35_1223 h, f_35_1224 h, f_35_1225 h, f_35_1226 h, f_35_1227 h, f_35_1228 h, f_35_1229 h, f_35_1230 h, f_35_1231 h, f_35_1232 h, f_35_1233 h, f_35_1234 h, f_35_1235 h, f_35_1236 h, f_35_1237 h, f_35_1238 h, f_35_1239 h, f_35_1240 h, f_35_1241 h, f_35_1242 h, f_35_1243 h, f_35_1244 h, f_35_1245 h, f_35_1246 h, f_35_1247 h, f_35_1248 h, f_35_1249 h, f_35_1250 h, A_55 h, N_55 h, Gt_8, q, e2, q2, nI_1, ihF, mtB, hb, hg, Bool.not_true, Bool.or_false, Bool.false_and, Bool.false_eq_true]
theorem m_rows_c {g : Nat → Nat} {S T : Nat} (hT : T < 256) {V : Nat → Int32} : ∀ (m i : Nat) (u : zH) (acc : Int32) (v4 v5 : Value), CW u g → i + m = 8 → v4.category = 1 → ga u 56 T = acc → (∀ c, c < 8 → las g T c = true → ga u 56 (clr T c) = V (clr T c)) → ∃ (u' : zH) (v4' v5' : Value), zFr [56] [] u u' ∧ v4'.category = 1 ∧ ga u' 56 T = smL (fun c => if las g T c = true then V (clr T c) else 0) m i acc ∧ (∀ R, R ≠ T → ga u' 56 R = ga u 56 R) ∧ zrun none (189, 23, [.ref 35, .int (nI S), .int (nI T), .int (nI i), v4, v5], [], u) = zrun none (189, 132, [.ref 35, .int (nI S), .int (nI T), .int (nI 8), v4', v5'], [], u') := by
  intro m
  induction m with
  | zero =>
    intro i u acc v4 v5 C hi h4 ha hV
    have e8 : i = 8 := by omega
    subst e8
    have q1 : (8 : Int32) ≤ nI 8 := by decide
    refine ⟨u, v4, v5, zFr.refl, h4, ha, fun _ _ => rfl, ?_⟩
    rw [e189_23]
    simp (disch := first | exact Nat.le_of_ble_eq_true rfl | exact zct_i _ | exact zct_r _ | exact zct_J | exact zct_n | with_reducible assumption | (with_reducible show (zf _ _ _).isSome = true; exact Sh.some (by repeat first | with_reducible assumption | (with_reducible refine Sh.pf ?_ ?_; rotate_left 1; exact fun _ => by decide +kernel) | (with_reducible refine Sh.as ?_ ?_; rotate_left 1; exact fun _ => by decide +kernel) | (with_reducible refine Sh.asr ?_ ?_; rotate_left 1; exact fun _ => by decide +kernel) | with_reducible refine Sh.push ?_ | (with_reducible refine Sh.pfn ?_ ?_; rotate_left 1; omega) | (with_reducible refine Sh.asn ?_ ?_; rotate_left 1; omega)) (by decide) (by decide +kernel) (by decide +kernel)) | exact rfl | exact zb01 _ | decide | fail) only [e189_24, e189_26, e189_29, e189_30, e189_31, e189_32, e189_33, e189_34, e189_35, e189_38, e189_39, e189_42, e189_43, e189_45, e189_46, e189_50, e189_52, e189_55, e189_57, e189_60, e189_61, e189_63, e189_64, e189_65, e189_66, e189_69, e189_70, e189_73, e189_75, e189_76, e189_77, e189_78, e189_79, e189_80, e189_83, e189_84, e189_87, e189_88, e189_90, e189_93, e189_96, e189_97, e189_100, e189_101, e189_102, e189_103, e189_105, e189_108, e189_109, e189_112, e189_113, e189_114, e189_115, e189_116, e189_117, e189_118, e189_119, e189_120, e189_123, e189_124, e189_125, e189_126, e189_129, zgd_true, zcl_ite, zX, Nat.reduceLT, Option.isSome_some, true_and, and_true, zo_some, zoi_some, zon_some, zcl_some, Option.toList_some, Option.toList_none, List.cons_append, List.nil_append, ite_true, ite_false, ↓reduceIte, z10, eq_self, not_true_eq_false, not_false_eq_true, and_self, or_true, true_or, q1]
  | succ m ih =>
    intro i u acc v4 v5 C hi h4 ha hV
    have h := C.1
    have hi8 : i < 8 := by omega
    have b := zbt T hT i hi8
    have dl := fun s => m_rows_d (S := S) C hT hi8 8 0 s (by omega)
    have cl : clr T i < 256 := clr_lt hT
    have ctd : ∀ (x : Int32), CW (zas u 56 (nI T) (.int x)) g := fun x => CW_fr C (zFr.refl.as (by decide) (by decide +kernel) : zFr [56] [] u _) (by decide)
    have go : ∀ x : Int32, zrun none (189, 23, [.ref 35, .int (nI S), .int (nI T), .int (nI i), v4, v5], [], u) = zrun none (189, 23, [.ref 35, .int (nI S), .int (nI T), .int (nI (i + 1)), .int (if las g T i = true then 1 else 0), .int (nI 8)], [], zas u 56 (nI T) (.int (acc + (if las g T i = true then V (clr T i) else 0)))) := by
      intro _
      have dT := dl true
      have dF := dl false
      simp only [if_true, Bool.true_and, Bool.false_and, Bool.false_eq_true, if_false, nI_0] at dT dF
      rw [e189_23]
      cases hb : T.testBit i with
      | false =>
        rw [hb] at b
        simp only [Bool.false_eq_true, if_false] at b
        have hl : las g T i = false := by unfold las; rw [hb]; rfl
        simp (disch := first | exact Nat.le_of_ble_eq_true rfl | exact zct_i _ | exact zct_r _ | exact zct_J | exact zct_n | with_reducible assumption | (with_reducible show (zf _ _ _).isSome = true; exact Sh.some (by repeat first | with_reducible assumption | (with_reducible refine Sh.pf ?_ ?_; rotate_left 1; exact fun _ => by decide +kernel) | (with_reducible refine Sh.as ?_ ?_; rotate_left 1; exact fun _ => by decide +kernel) | (with_reducible refine Sh.asr ?_ ?_; rotate_left 1; exact fun _ => by decide +kernel) | with_reducible refine Sh.push ?_ | (with_reducible refine Sh.pfn ?_ ?_; rotate_left 1; omega) | (with_reducible refine Sh.asn ?_ ?_; rotate_left 1; omega)) (by decide) (by decide +kernel) (by decide +kernel)) | exact rfl | exact zb01 _ | decide | fail) only [e189_24, e189_26, e189_29, e189_30, e189_31, e189_32, e189_33, e189_34, e189_35, e189_38, e189_39, e189_42, e189_43, e189_45, e189_46, e189_50, e189_52, e189_55, e189_57, e189_60, e189_61, e189_63, e189_64, e189_65, e189_66, e189_69, e189_70, e189_73, e189_75, e189_76, e189_77, e189_78, e189_79, e189_80, e189_83, e189_84, e189_87, e189_88, e189_90, e189_93, e189_96, e189_97, e189_100, e189_101, e189_102, e189_103, e189_105, e189_108, e189_109, e189_112, e189_113, e189_114, e189_115, e189_116, e189_117, e189_118, e189_119, e189_120, e189_123, e189_124, e189_125, e189_126, e189_129, zgd_true, zcl_ite, zX, Nat.reduceLT, Option.isSome_some, true_and, and_true, zo_some, zoi_some, zon_some, zcl_some, Option.toList_some, Option.toList_none, List.cons_append, List.nil_append, ite_true, ite_false, ↓reduceIte, z10, eq_self, not_true_eq_false, not_false_eq_true, and_self, or_true, true_or, i_35 h, f_35_1200 h, f_35_1201 h, f_35_1202 h, f_35_1203 h, f_35_1204 h, f_35_1205 h, f_35_1206 h, f_35_1207 h, f_35_1208 h, f_35_1209 h, f_35_1210 h, f_35_1211 h, f_35_1212 h, f_35_1213 h, f_35_1214 h, f_35_1215 h, f_35_1216 h, f_35_1217 h, f_35_1218 h, f_35_1219 h, f_35_1220 h, f_35_1221 h, f_35_1222 h, f_35_1223 h, f_35_1224 h, f_35_1225 h, f_35_1226 h, f_35_1227 h, f_35_1228 h, f_35_1229 h, f_35_1230 h, f_35_1231 h, f_35_1232 h, f_35_1233 h, f_35_1234 h, f_35_1235 h, f_35_1236 h, f_35_1237 h, f_35_1238 h, f_35_1239 h, f_35_1240 h, f_35_1241 h, f_35_1242 h, f_35_1243 h, f_35_1244 h, f_35_1245 h, f_35_1246 h, f_35_1247 h, f_35_1248 h, f_35_1249 h, f_35_1250 h, A_56 h, N_56 h, Gt_8, b, Int32.reduceAdd, Int32.reduceMul, Int32.reduceSub, Int32.reduceDiv, Int32.reduceLT, Int32.reduceLE, Int32.reduceToNatClampNeg, Nat.reduceAdd, Nat.reduceMul, Nat.reduceLT, Nat.reduceEqDiff, q_0_1, q_0_2, q_0_3, q_0_4, q_0_5, q_0_6, q_0_7, q_0_8, q_0_9, q_1_0, q_1_2, q_1_3, q_1_4, q_1_5, q_1_6, q_1_7, q_1_8, q_1_9, q_2_0, q_2_1, q_2_3, q_2_4, q_2_5, q_2_6, q_2_7, q_2_8, q_2_9, q_3_0, q_3_1, q_3_2, q_3_4, q_3_5, q_3_6, q_3_7, q_3_8, q_3_9, q_4_0, q_4_1, q_4_2, q_4_3, q_4_5, q_4_6, q_4_7, q_4_8, q_4_9, q_5_0, q_5_1, q_5_2, q_5_3, q_5_4, q_5_6, q_5_7, q_5_8, q_5_9, q_6_0, q_6_1, q_6_2, q_6_3, q_6_4, q_6_5, q_6_7, q_6_8, q_6_9, q_7_0, q_7_1, q_7_2, q_7_3, q_7_4, q_7_5, q_7_6, q_7_8, q_7_9, q_8_0, q_8_1, q_8_2, q_8_3, q_8_4, q_8_5, q_8_6, q_8_7, q_8_9, q_9_0, q_9_1, q_9_2, q_9_3, q_9_4, q_9_5, q_9_6, q_9_7, q_9_8, dF, ha, hl, nI_1, Bool.false_eq_true]
      | true =>
        rw [hb] at b
        simp only [if_true] at b
        have hl : las g T i = mtB (fun e => !T.testBit e || !(g e).testBit i) 8 0 := by unfold las; rw [hb]; rfl
        rw [← hl] at dT
        by_cases e : las g T i = true
        · have v := hV i hi8 e
          rw [e] at dT
          simp only [if_true] at dT
          simp (disch := first | exact Nat.le_of_ble_eq_true rfl | exact zct_i _ | exact zct_r _ | exact zct_J | exact zct_n | with_reducible assumption | (with_reducible show (zf _ _ _).isSome = true; exact Sh.some (by repeat first | with_reducible assumption | (with_reducible refine Sh.pf ?_ ?_; rotate_left 1; exact fun _ => by decide +kernel) | (with_reducible refine Sh.as ?_ ?_; rotate_left 1; exact fun _ => by decide +kernel) | (with_reducible refine Sh.asr ?_ ?_; rotate_left 1; exact fun _ => by decide +kernel) | with_reducible refine Sh.push ?_ | (with_reducible refine Sh.pfn ?_ ?_; rotate_left 1; omega) | (with_reducible refine Sh.asn ?_ ?_; rotate_left 1; omega)) (by decide) (by decide +kernel) (by decide +kernel)) | exact rfl | exact zb01 _ | decide | fail) only [e189_24, e189_26, e189_29, e189_30, e189_31, e189_32, e189_33, e189_34, e189_35, e189_38, e189_39, e189_42, e189_43, e189_45, e189_46, e189_50, e189_52, e189_55, e189_57, e189_60, e189_61, e189_63, e189_64, e189_65, e189_66, e189_69, e189_70, e189_73, e189_75, e189_76, e189_77, e189_78, e189_79, e189_80, e189_83, e189_84, e189_87, e189_88, e189_90, e189_93, e189_96, e189_97, e189_100, e189_101, e189_102, e189_103, e189_105, e189_108, e189_109, e189_112, e189_113, e189_114, e189_115, e189_116, e189_117, e189_118, e189_119, e189_120, e189_123, e189_124, e189_125, e189_126, e189_129, zgd_true, zcl_ite, zX, Nat.reduceLT, Option.isSome_some, true_and, and_true, zo_some, zoi_some, zon_some, zcl_some, Option.toList_some, Option.toList_none, List.cons_append, List.nil_append, ite_true, ite_false, ↓reduceIte, z10, eq_self, not_true_eq_false, not_false_eq_true, and_self, or_true, true_or, i_35 h, f_35_1200 h, f_35_1201 h, f_35_1202 h, f_35_1203 h, f_35_1204 h, f_35_1205 h, f_35_1206 h, f_35_1207 h, f_35_1208 h, f_35_1209 h, f_35_1210 h, f_35_1211 h, f_35_1212 h, f_35_1213 h, f_35_1214 h, f_35_1215 h, f_35_1216 h, f_35_1217 h, f_35_1218 h, f_35_1219 h, f_35_1220 h, f_35_1221 h, f_35_1222 h, f_35_1223 h, f_35_1224 h, f_35_1225 h, f_35_1226 h, f_35_1227 h, f_35_1228 h, f_35_1229 h, f_35_1230 h, f_35_1231 h, f_35_1232 h, f_35_1233 h, f_35_1234 h, f_35_1235 h, f_35_1236 h, f_35_1237 h, f_35_1238 h, f_35_1239 h, f_35_1240 h, f_35_1241 h, f_35_1242 h, f_35_1243 h, f_35_1244 h, f_35_1245 h, f_35_1246 h, f_35_1247 h, f_35_1248 h, f_35_1249 h, f_35_1250 h, A_56 h, N_56 h, Gt_8, b, Int32.reduceAdd, Int32.reduceMul, Int32.reduceSub, Int32.reduceDiv, Int32.reduceLT, Int32.reduceLE, Int32.reduceToNatClampNeg, Nat.reduceAdd, Nat.reduceMul, Nat.reduceLT, Nat.reduceEqDiff, q_0_1, q_0_2, q_0_3, q_0_4, q_0_5, q_0_6, q_0_7, q_0_8, q_0_9, q_1_0, q_1_2, q_1_3, q_1_4, q_1_5, q_1_6, q_1_7, q_1_8, q_1_9, q_2_0, q_2_1, q_2_3, q_2_4, q_2_5, q_2_6, q_2_7, q_2_8, q_2_9, q_3_0, q_3_1, q_3_2, q_3_4, q_3_5, q_3_6, q_3_7, q_3_8, q_3_9, q_4_0, q_4_1, q_4_2, q_4_3, q_4_5, q_4_6, q_4_7, q_4_8, q_4_9, q_5_0, q_5_1, q_5_2, q_5_3, q_5_4, q_5_6, q_5_7, q_5_8, q_5_9, q_6_0, q_6_1, q_6_2, q_6_3, q_6_4, q_6_5, q_6_7, q_6_8, q_6_9, q_7_0, q_7_1, q_7_2, q_7_3, q_7_4, q_7_5, q_7_6, q_7_8, q_7_9, q_8_0, q_8_1, q_8_2, q_8_3, q_8_4, q_8_5, q_8_6, q_8_7, q_8_9, q_9_0, q_9_1, q_9_2, q_9_3, q_9_4, q_9_5, q_9_6, q_9_7, q_9_8, dT, ha, e, nclr T hT i hi8, v, nI_1]
        · rw [Bool.not_eq_true] at e
          rw [e] at dT
          simp only [Bool.false_eq_true, if_false] at dT
          simp (disch := first | exact Nat.le_of_ble_eq_true rfl | exact zct_i _ | exact zct_r _ | exact zct_J | exact zct_n | with_reducible assumption | (with_reducible show (zf _ _ _).isSome = true; exact Sh.some (by repeat first | with_reducible assumption | (with_reducible refine Sh.pf ?_ ?_; rotate_left 1; exact fun _ => by decide +kernel) | (with_reducible refine Sh.as ?_ ?_; rotate_left 1; exact fun _ => by decide +kernel) | (with_reducible refine Sh.asr ?_ ?_; rotate_left 1; exact fun _ => by decide +kernel) | with_reducible refine Sh.push ?_ | (with_reducible refine Sh.pfn ?_ ?_; rotate_left 1; omega) | (with_reducible refine Sh.asn ?_ ?_; rotate_left 1; omega)) (by decide) (by decide +kernel) (by decide +kernel)) | exact rfl | exact zb01 _ | decide | fail) only [e189_24, e189_26, e189_29, e189_30, e189_31, e189_32, e189_33, e189_34, e189_35, e189_38, e189_39, e189_42, e189_43, e189_45, e189_46, e189_50, e189_52, e189_55, e189_57, e189_60, e189_61, e189_63, e189_64, e189_65, e189_66, e189_69, e189_70, e189_73, e189_75, e189_76, e189_77, e189_78, e189_79, e189_80, e189_83, e189_84, e189_87, e189_88, e189_90, e189_93, e189_96, e189_97, e189_100, e189_101, e189_102, e189_103, e189_105, e189_108, e189_109, e189_112, e189_113, e189_114, e189_115, e189_116, e189_117, e189_118, e189_119, e189_120, e189_123, e189_124, e189_125, e189_126, e189_129, zgd_true, zcl_ite, zX, Nat.reduceLT, Option.isSome_some, true_and, and_true, zo_some, zoi_some, zon_some, zcl_some, Option.toList_some, Option.toList_none, List.cons_append, List.nil_append, ite_true, ite_false, ↓reduceIte, z10, eq_self, not_true_eq_false, not_false_eq_true, and_self, or_true, true_or, i_35 h, f_35_1200 h, f_35_1201 h, f_35_1202 h, f_35_1203 h, f_35_1204 h, f_35_1205 h, f_35_1206 h, f_35_1207 h, f_35_1208 h, f_35_1209 h, f_35_1210 h, f_35_1211 h, f_35_1212 h, f_35_1213 h, f_35_1214 h, f_35_1215 h, f_35_1216 h, f_35_1217 h, f_35_1218 h, f_35_1219 h, f_35_1220 h, f_35_1221 h, f_35_1222 h, f_35_1223 h, f_35_1224 h, f_35_1225 h, f_35_1226 h, f_35_1227 h, f_35_1228 h, f_35_1229 h, f_35_1230 h, f_35_1231 h, f_35_1232 h, f_35_1233 h, f_35_1234 h, f_35_1235 h, f_35_1236 h, f_35_1237 h, f_35_1238 h, f_35_1239 h, f_35_1240 h, f_35_1241 h, f_35_1242 h, f_35_1243 h, f_35_1244 h, f_35_1245 h, f_35_1246 h, f_35_1247 h, f_35_1248 h, f_35_1249 h, f_35_1250 h, A_56 h, N_56 h, Gt_8, b, Int32.reduceAdd, Int32.reduceMul, Int32.reduceSub, Int32.reduceDiv, Int32.reduceLT, Int32.reduceLE, Int32.reduceToNatClampNeg, Nat.reduceAdd, Nat.reduceMul, Nat.reduceLT, Nat.reduceEqDiff, q_0_1, q_0_2, q_0_3, q_0_4, q_0_5, q_0_6, q_0_7, q_0_8, q_0_9, q_1_0, q_1_2, q_1_3, q_1_4, q_1_5, q_1_6, q_1_7, q_1_8, q_1_9, q_2_0, q_2_1, q_2_3, q_2_4, q_2_5, q_2_6, q_2_7, q_2_8, q_2_9, q_3_0, q_3_1, q_3_2, q_3_4, q_3_5, q_3_6, q_3_7, q_3_8, q_3_9, q_4_0, q_4_1, q_4_2, q_4_3, q_4_5, q_4_6, q_4_7, q_4_8, q_4_9, q_5_0, q_5_1, q_5_2, q_5_3, q_5_4, q_5_6, q_5_7, q_5_8, q_5_9, q_6_0, q_6_1, q_6_2, q_6_3, q_6_4, q_6_5, q_6_7, q_6_8, q_6_9, q_7_0, q_7_1, q_7_2, q_7_3, q_7_4, q_7_5, q_7_6, q_7_8, q_7_9, q_8_0, q_8_1, q_8_2, q_8_3, q_8_4, q_8_5, q_8_6, q_8_7, q_8_9, q_9_0, q_9_1, q_9_2, q_9_3, q_9_4, q_9_5, q_9_6, q_9_7, q_9_8, dT, ha, e, nI_1, Bool.false_eq_true]
    have hf1 : zFr [56] [] u (zas u 56 (nI T) (.int (acc + (if las g T i = true then V (clr T i) else 0)))) := zFr.refl.as (by decide) (by decide +kernel)
    have lT := L_56 h hT
    obtain ⟨u', v4', v5', f', c4, a', r', e'⟩ := ih (i + 1) _ (acc + (if las g T i = true then V (clr T i) else 0)) (.int (if las g T i = true then 1 else 0)) (.int (nI 8)) (ctd _) (by omega) rfl (by rw [ga_asn lT, if_pos rfl]) (fun c hc hl => by
      rw [ga_asn lT, if_neg (by have := clr_self hc (las_iff.mp hl).1; omega)]
      exact hV c hc hl)
    refine ⟨u', v4', v5', hf1.trans f', c4, a', fun R hR => ?_, ?_⟩
    · rw [r' R hR, ga_asn lT, if_neg (fun q => hR q.symm)]
    · rw [go 0, e']
theorem m_rows_loop {w : zH} {g : Nat → Nat} (C : CW w g) {S : Nat} (hS : S < 256) : ∀ (m T : Nat) (u : zH) (v3 v4 v5 : Value), T + m = S + 1 → 1 ≤ T → v3.category = 1 → v4.category = 1 → zFr [56] [] w u → (∀ R, R < T → ga u 56 R = fB g (pcn R) R) → ∃ u', zFr [56] [] w u' ∧ zrun none (189, 9, [.ref 35, .int (nI S), .int (nI T), v3, v4, v5], [], u) = some (some (.int (fB g (pcn S) S)), u') := by
  intro m
  induction m with
  | zero =>
    intro T u v3 v4 v5 hT h1 h3 h4 hf hv
    have hU := hf.sh C.1
    have q1 : nI S < nI T := nI_lt (by omega) (by omega)
    refine ⟨u, hf, ?_⟩
    have v := hv S (by omega)
    rw [e189_9]
    simp (disch := first | exact Nat.le_of_ble_eq_true rfl | exact zct_i _ | exact zct_r _ | exact zct_J | exact zct_n | with_reducible assumption | (with_reducible show (zf _ _ _).isSome = true; exact Sh.some (by repeat first | with_reducible assumption | (with_reducible refine Sh.pf ?_ ?_; rotate_left 1; exact fun _ => by decide +kernel) | (with_reducible refine Sh.as ?_ ?_; rotate_left 1; exact fun _ => by decide +kernel) | (with_reducible refine Sh.asr ?_ ?_; rotate_left 1; exact fun _ => by decide +kernel) | with_reducible refine Sh.push ?_ | (with_reducible refine Sh.pfn ?_ ?_; rotate_left 1; omega) | (with_reducible refine Sh.asn ?_ ?_; rotate_left 1; omega)) (by decide) (by decide +kernel) (by decide +kernel)) | exact rfl | exact zb01 _ | decide | fail) only [e189_10, e189_11, e189_14, e189_15, e189_18, e189_19, e189_20, e189_21, e189_22, e189_132, e189_135, e189_138, e189_139, e189_142, e189_143, e189_144, zgd_true, zcl_ite, zX, Nat.reduceLT, Option.isSome_some, true_and, and_true, zo_some, zoi_some, zon_some, zcl_some, Option.toList_some, Option.toList_none, List.cons_append, List.nil_append, ite_true, ite_false, ↓reduceIte, z10, eq_self, not_true_eq_false, not_false_eq_true, and_self, or_true, true_or, i_35 hU, f_35_1200 hU, f_35_1201 hU, f_35_1202 hU, f_35_1203 hU, f_35_1204 hU, f_35_1205 hU, f_35_1206 hU, f_35_1207 hU, f_35_1208 hU, f_35_1209 hU, f_35_1210 hU, f_35_1211 hU, f_35_1212 hU, f_35_1213 hU, f_35_1214 hU, f_35_1215 hU, f_35_1216 hU, f_35_1217 hU, f_35_1218 hU, f_35_1219 hU, f_35_1220 hU, f_35_1221 hU, f_35_1222 hU, f_35_1223 hU, f_35_1224 hU, f_35_1225 hU, f_35_1226 hU, f_35_1227 hU, f_35_1228 hU, f_35_1229 hU, f_35_1230 hU, f_35_1231 hU, f_35_1232 hU, f_35_1233 hU, f_35_1234 hU, f_35_1235 hU, f_35_1236 hU, f_35_1237 hU, f_35_1238 hU, f_35_1239 hU, f_35_1240 hU, f_35_1241 hU, f_35_1242 hU, f_35_1243 hU, f_35_1244 hU, f_35_1245 hU, f_35_1246 hU, f_35_1247 hU, f_35_1248 hU, f_35_1249 hU, f_35_1250 hU, A_56 hU, N_56 hU, q1, v]
  | succ m ih =>
    intro T u v3 v4 v5 hT h1 h3 h4 hf hv
    have hU := hf.sh C.1
    have q1 : ¬ nI S < nI T := nI_nlt (by omega) (by omega)
    have hT6 : T < 256 := by omega
    have lT := L_56 hU hT6
    have hf0 : zFr [56] [] w (zas u 56 (nI T) (.int 0)) := hf.as (by decide) (by decide +kernel)
    have C0 := CW_fr C hf0 (by decide)
    obtain ⟨u', v4', v5', f', c4, a', r', e'⟩ := m_rows_c (S := S) (V := fun R => fB g (pcn R) R) hT6 8 0 (zas u 56 (nI T) (.int 0)) 0 v4 v5 C0 (by omega) h4 (by rw [ga_asn lT, if_pos rfl]) (fun c hc hl => by
      have := clr_self hc (las_iff.mp hl).1
      rw [ga_asn lT, if_neg (by omega)]
      exact hv _ this)
    have eT : smL (fun c => if las g T c = true then fB g (pcn (clr T c)) (clr T c) else 0) 8 0 0 = fB g (pcn T) T := by
      rw [smL_sm]
      obtain ⟨p, hp⟩ : ∃ p, pcn T = p + 1 := ⟨pcn T - 1, by have := (pcn_0 T hT6); omega⟩
      rw [hp, fB]
      refine sm_congr 8 (fun c hc => ?_)
      by_cases e : las g T c = true
      · have := pcn_clr T hT6 c hc (las_iff.mp e).1
        rw [if_pos e, if_pos e, show pcn (clr T c) = p by omega]
      · rw [if_neg e, if_neg e]
    rw [eT] at a'
    obtain ⟨u2, f2, e2⟩ := ih (T + 1) u' (.int (nI 8)) v4' v5' (by omega) (by omega) rfl c4 (hf0.trans f') (fun R hR => by
      by_cases e : R = T
      · rw [e]; exact a'
      · rw [r' R e, ga_asn lT, if_neg (fun q => e q.symm)]
        exact hv R (by omega))
    refine ⟨u2, f2, ?_⟩
    simp only [nI_0] at e'
    rw [e189_9]
    simp (disch := first | exact Nat.le_of_ble_eq_true rfl | exact zct_i _ | exact zct_r _ | exact zct_J | exact zct_n | with_reducible assumption | (with_reducible show (zf _ _ _).isSome = true; exact Sh.some (by repeat first | with_reducible assumption | (with_reducible refine Sh.pf ?_ ?_; rotate_left 1; exact fun _ => by decide +kernel) | (with_reducible refine Sh.as ?_ ?_; rotate_left 1; exact fun _ => by decide +kernel) | (with_reducible refine Sh.asr ?_ ?_; rotate_left 1; exact fun _ => by decide +kernel) | with_reducible refine Sh.push ?_ | (with_reducible refine Sh.pfn ?_ ?_; rotate_left 1; omega) | (with_reducible refine Sh.asn ?_ ?_; rotate_left 1; omega)) (by decide) (by decide +kernel) (by decide +kernel)) | exact rfl | exact zb01 _ | decide | fail) only [e189_10, e189_11, e189_14, e189_15, e189_18, e189_19, e189_20, e189_21, e189_22, e189_132, e189_135, e189_138, e189_139, e189_142, e189_143, e189_144, zgd_true, zcl_ite, zX, Nat.reduceLT, Option.isSome_some, true_and, and_true, zo_some, zoi_some, zon_some, zcl_some, Option.toList_some, Option.toList_none, List.cons_append, List.nil_append, ite_true, ite_false, ↓reduceIte, z10, eq_self, not_true_eq_false, not_false_eq_true, and_self, or_true, true_or, i_35 hU, f_35_1200 hU, f_35_1201 hU, f_35_1202 hU, f_35_1203 hU, f_35_1204 hU, f_35_1205 hU, f_35_1206 hU, f_35_1207 hU, f_35_1208 hU, f_35_1209 hU, f_35_1210 hU, f_35_1211 hU, f_35_1212 hU, f_35_1213 hU, f_35_1214 hU, f_35_1215 hU, f_35_1216 hU, f_35_1217 hU, f_35_1218 hU, f_35_1219 hU, f_35_1220 hU, f_35_1221 hU, f_35_1222 hU, f_35_1223 hU, f_35_1224 hU, f_35_1225 hU, f_35_1226 hU, f_35_1227 hU, f_35_1228 hU, f_35_1229 hU, f_35_1230 hU, f_35_1231 hU, f_35_1232 hU, f_35_1233 hU, f_35_1234 hU, f_35_1235 hU, f_35_1236 hU, f_35_1237 hU, f_35_1238 hU, f_35_1239 hU, f_35_1240 hU, f_35_1241 hU, f_35_1242 hU, f_35_1243 hU, f_35_1244 hU, f_35_1245 hU, f_35_1246 hU, f_35_1247 hU, f_35_1248 hU, f_35_1249 hU, f_35_1250 hU, A_56 hU, N_56 hU, q1, e', nI_1, e2]
theorem m_rowsOf {w : zH} {g : Nat → Nat} (C : CW w g) {S : Nat} (hS : S < 256) : ∃ u', zFr [56] [] w u' ∧ zrun none (189, 0, [.ref 35, .int (nI S), zJ, zJ, zJ, zJ], [], w) = some (some (.int (fB g (pcn S) S)), u') := by
  have h := C.1
  have h0 : (0 : Nat) < 256 := by decide
  have hf : zFr [56] [] w (zas w 56 (nI 0) (.int 1)) := zFr.refl.as (by decide) (by decide +kernel)
  obtain ⟨u', f', e'⟩ := m_rows_loop C hS S 1 _ zJ zJ zJ (by omega) (by omega) rfl rfl hf (fun R hR => by
    have : R = 0 := by omega
    subst this
    rw [ga_asn (L_56 h h0), if_pos rfl]
    rfl)
  refine ⟨u', f', ?_⟩
  have n0 := N_56 h h0
  simp only [nI_0] at n0 e'
  simp (disch := first | exact Nat.le_of_ble_eq_true rfl | exact zct_i _ | exact zct_r _ | exact zct_J | exact zct_n | with_reducible assumption | (with_reducible show (zf _ _ _).isSome = true; exact Sh.some (by repeat first | with_reducible assumption | (with_reducible refine Sh.pf ?_ ?_; rotate_left 1; exact fun _ => by decide +kernel) | (with_reducible refine Sh.as ?_ ?_; rotate_left 1; exact fun _ => by decide +kernel) | (with_reducible refine Sh.asr ?_ ?_; rotate_left 1; exact fun _ => by decide +kernel) | with_reducible refine Sh.push ?_ | (with_reducible refine Sh.pfn ?_ ?_; rotate_left 1; omega) | (with_reducible refine Sh.asn ?_ ?_; rotate_left 1; omega)) (by decide) (by decide +kernel) (by decide +kernel)) | exact rfl | exact zb01 _ | decide | fail) only [e189_0, e189_1, e189_4, e189_5, e189_6, e189_7, e189_8, zgd_true, zcl_ite, zX, Nat.reduceLT, Option.isSome_some, true_and, and_true, zo_some, zoi_some, zon_some, zcl_some, Option.toList_some, Option.toList_none, List.cons_append, List.nil_append, ite_true, ite_false, ↓reduceIte, z10, eq_self, not_true_eq_false, not_false_eq_true, and_self, or_true, true_or, i_35 h, f_35_1200 h, f_35_1201 h, f_35_1202 h, f_35_1203 h, f_35_1204 h, f_35_1205 h, f_35_1206 h, f_35_1207 h, f_35_1208 h, f_35_1209 h, f_35_1210 h, f_35_1211 h, f_35_1212 h, f_35_1213 h, f_35_1214 h, f_35_1215 h, f_35_1216 h, f_35_1217 h, f_35_1218 h, f_35_1219 h, f_35_1220 h, f_35_1221 h, f_35_1222 h, f_35_1223 h, f_35_1224 h, f_35_1225 h, f_35_1226 h, f_35_1227 h, f_35_1228 h, f_35_1229 h, f_35_1230 h, f_35_1231 h, f_35_1232 h, f_35_1233 h, f_35_1234 h, f_35_1235 h, f_35_1236 h, f_35_1237 h, f_35_1238 h, f_35_1239 h, f_35_1240 h, f_35_1241 h, f_35_1242 h, f_35_1243 h, f_35_1244 h, f_35_1245 h, f_35_1246 h, f_35_1247 h, f_35_1248 h, f_35_1249 h, f_35_1250 h, n0]
  exact e'
