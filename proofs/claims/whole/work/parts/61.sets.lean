/-! sets of conditions as numbers below 256 -/
theorem nx_and (a b : Nat) : nI a &&& nI b = nI (a &&& b) := by
  apply Int32.toBitVec_inj.1
  show BitVec.ofNat 32 a &&& BitVec.ofNat 32 b = BitVec.ofNat 32 (a &&& b)
  apply BitVec.eq_of_getLsbD_eq
  intro i hi
  simp [hi]
def clr (S c : Nat) : Nat := S &&& (255 ^^^ 2 ^ c)
theorem nclr : ∀ S, S < 256 → ∀ c, c < 8 → nI S &&& ((1 : Int32) <<< (nI c &&& 31) ^^^ (-1)) = nI (clr S c) := by decide +kernel
theorem clr_lt {S c : Nat} (h : S < 256) : clr S c < 256 := Nat.lt_of_le_of_lt Nat.and_le_left h
theorem clr_bit (S c : Nat) {d : Nat} (hd : d < 8) : (clr S c).testBit d = (S.testBit d && !decide (c = d)) := by
  unfold clr
  rw [Nat.testBit_and, Nat.testBit_xor, show (255 : Nat) = 2 ^ 8 - 1 from rfl, Nat.testBit_two_pow_sub_one, Nat.testBit_two_pow]
  simp [hd]
theorem set_ext {S T : Nat} (hS : S < 256) (hT : T < 256) (h : ∀ d, d < 8 → S.testBit d = T.testBit d) : S = T := by
  apply Nat.eq_of_testBit_eq
  intro c
  by_cases hc : c < 8
  · exact h c hc
  · have hp : 2 ^ 8 ≤ 2 ^ c := Nat.pow_le_pow_right (by decide) (by omega)
    rw [Nat.testBit_lt_two_pow (by omega), Nat.testBit_lt_two_pow (by omega)]
theorem set_nil {S : Nat} (hS : S < 256) : S = 0 ↔ ∀ d, d < 8 → S.testBit d = false := by
  constructor
  · intro e d _
    rw [e, Nat.zero_testBit]
  · intro hh
    exact set_ext hS (by decide) (fun d hd => by rw [hh d hd, Nat.zero_testBit])
theorem and_nil {a S : Nat} (hS : S < 256) : a &&& S = 0 ↔ ∀ d, d < 8 → S.testBit d = true → a.testBit d = false := by
  rw [set_nil (Nat.lt_of_le_of_lt Nat.and_le_right hS)]
  constructor
  · intro hh d hd hs
    have := hh d hd
    rw [Nat.testBit_and, hs, Bool.and_true] at this
    exact this
  · intro hh d hd
    rw [Nat.testBit_and]
    cases hs : S.testBit d with
    | false => exact Bool.and_false _
    | true => rw [hh d hd hs]; rfl
/-- may come next -/
def may (g : Nat → Nat) (S c : Nat) : Bool := S.testBit c && decide (g c &&& S = 0)
theorem may_iff {g : Nat → Nat} {S c : Nat} (hS : S < 256) : may g S c = true ↔ S.testBit c = true ∧ ∀ d, d < 8 → S.testBit d = true → (g c).testBit d = false := by
  unfold may
  rw [Bool.and_eq_true, decide_eq_true_iff, and_nil hS]
/-- the first -/
def lnB (q : Nat → Bool) : Nat → Nat → Option Nat
  | 0, _ => none
  | m + 1, i => if q i = true then some i else lnB q m (i + 1)
theorem lnB_some {q : Nat → Bool} : ∀ m i c, lnB q m i = some c → q c = true ∧ i ≤ c ∧ c < i + m ∧ ∀ d, i ≤ d → d < c → q d = false := by
  intro m
  induction m with
  | zero => intro i c h; cases h
  | succ m ih =>
    intro i c h
    rw [lnB] at h
    split at h
    · rename_i hq
      cases h
      exact ⟨hq, Nat.le_refl _, by omega, fun d h1 h2 => by omega⟩
    · rename_i hq
      obtain ⟨h1, h2, h3, h4⟩ := ih _ _ h
      refine ⟨h1, by omega, by omega, fun d d1 d2 => ?_⟩
      by_cases e : d = i
      · rw [e]
        cases hb : q i with
        | false => rfl
        | true => exact absurd hb hq
      · exact h4 d (by omega) d2
theorem lnB_none {q : Nat → Bool} : ∀ m i, lnB q m i = none → ∀ d, i ≤ d → d < i + m → q d = false := by
  intro m
  induction m with
  | zero => intro i _ d h1 h2; omega
  | succ m ih =>
    intro i h d h1 h2
    rw [lnB] at h
    split at h
    · cases h
    · rename_i hq
      by_cases e : d = i
      · rw [e]
        cases hb : q i with
        | false => rfl
        | true => exact absurd hb hq
      · exact ih _ h d (by omega) (by omega)
def stuck (g : Nat → Nat) (U : Nat) : Prop := ∀ c, c < 8 → may g U c = false
def sub8 (A B : Nat) : Prop := ∀ d, d < 8 → A.testBit d = true → B.testBit d = true
/-- what is left over -/
def LO (g : Nat → Nat) (S L : Nat) : Prop := L < 256 ∧ sub8 L S ∧ stuck g L ∧ ∀ U, U < 256 → stuck g U → sub8 U S → sub8 U L
theorem LO_u {g : Nat → Nat} {S L M : Nat} (h : LO g S L) (k : LO g S M) : L = M := by
  refine set_ext h.1 k.1 (fun d hd => ?_)
  have h1 := k.2.2.2 L h.1 h.2.2.1 h.2.1 d hd
  have h2 := h.2.2.2 M k.1 k.2.2.1 k.2.1 d hd
  cases e : L.testBit d with
  | true => exact (h1 e).symm
  | false =>
    cases e2 : M.testBit d with
    | false => rfl
    | true => rw [h2 e2] at e; cases e
theorem LO_stuck {g : Nat → Nat} {S : Nat} (hS : S < 256) (h : stuck g S) : LO g S S := ⟨hS, fun _ _ h => h, h, fun _ _ _ h => h⟩
/-- what is taken away is in no stuck set -/
theorem stuck_out {g : Nat → Nat} {S U c : Nat} (hS : S < 256) (hU : U < 256) (hk : stuck g U) (hs : sub8 U S) (hc : c < 8) (hm : may g S c = true) : U.testBit c = false := by
  cases e : U.testBit c with
  | false => rfl
  | true =>
    have := hk c hc
    rw [← Bool.not_eq_true] at this
    exfalso
    refine this ((may_iff hU).mpr ⟨e, fun d hd hd2 => ?_⟩)
    exact ((may_iff hS).mp hm).2 d hd (hs d hd hd2)
theorem LO_take {g : Nat → Nat} {S T L : Nat} (hS : S < 256) (hT : sub8 T S) (ho : ∀ d, d < 8 → S.testBit d = true → T.testBit d = false → may g S d = true) (h : LO g T L) : LO g S L := by
  refine ⟨h.1, fun d hd hl => hT d hd (h.2.1 d hd hl), h.2.2.1, fun U hU hk hs => h.2.2.2 U hU hk (fun d hd hu => ?_)⟩
  cases e : T.testBit d with
  | true => rfl
  | false =>
    have := stuck_out hS hU hk hs hd (ho d hd (hs d hd hu) e)
    rw [this] at hu
    cases hu
/-- the rules of both, as numbers -/
def CW (w : zH) (g : Nat → Nat) : Prop := Sh w ∧ ∀ c, c < 8 → ga w 10 c = nI (g c) ∧ ga w 55 c = nI (g c) ∧ g c < 256
theorem CW_of {w : zH} (h : Sh w) (hO : IO w) : ∃ g, CW w g := by
  refine ⟨fun c => (ga w 55 c).toNatClampNeg, h, fun c hc => ?_⟩
  have o := hO.2 c hc
  obtain ⟨u, hu, eu⟩ := nI_of2 (n := 255) (by decide) (Int32.not_lt.mpr o.2.1) o.2.2
  rw [o.1, eu]
  dsimp only
  rw [eu, nI_clamp (by omega)]
  exact ⟨rfl, rfl, by omega⟩
theorem k_may {w : zH} {g : Nat → Nat} (C : CW w g) {S c : Nat} (hS : S < 256) (hc : c < 8) : zrun none (25, 0, [.ref 9, .int (nI c), .int (nI S)], [], w) = some (some (.int (if may g S c = true then 1 else 0)), w) := by
  have h := C.1
  obtain ⟨e1, -, e3⟩ := C.2 c hc
  have b := zbt0 S hS c hc
  unfold may
  cases hb : S.testBit c with
  | false =>
    have q := b.mpr hb
    simp (disch := first | exact Nat.le_of_ble_eq_true rfl | exact zct_i _ | exact zct_r _ | exact zct_J | exact zct_n | with_reducible assumption | (with_reducible show (zf _ _ _).isSome = true; exact Sh.some (by repeat first | with_reducible assumption | (with_reducible refine Sh.pf ?_ ?_; rotate_left 1; exact fun _ => by decide +kernel) | (with_reducible refine Sh.as ?_ ?_; rotate_left 1; exact fun _ => by decide +kernel) | (with_reducible refine Sh.asr ?_ ?_; rotate_left 1; exact fun _ => by decide +kernel) | with_reducible refine Sh.push ?_ | (with_reducible refine Sh.pfn ?_ ?_; rotate_left 1; omega) | (with_reducible refine Sh.asn ?_ ?_; rotate_left 1; omega)) (by decide) (by decide +kernel) (by decide +kernel)) | exact rfl | exact zb01 _ | decide | fail) only [e25_0, e25_1, e25_2, e25_5, e25_8, e25_9, e25_12, e25_13, e25_14, e25_15, e25_16, e25_19, e25_20, e25_23, e25_24, zgd_true, zcl_ite, zX, Nat.reduceLT, Option.isSome_some, true_and, and_true, zo_some, zoi_some, zon_some, zcl_some, Option.toList_some, Option.toList_none, List.cons_append, List.nil_append, ite_true, ite_false, ↓reduceIte, z10, eq_self, not_true_eq_false, not_false_eq_true, and_self, or_true, true_or, k_holdsBit, q, Bool.false_and, Bool.false_eq_true]
  | true =>
    have q : ¬ (nI S >>> (nI c &&& 31)) &&& 1 = 0 := fun s => by rw [b.mp s] at hb; cases hb
    by_cases z : g c &&& S = 0
    · have z' : nI (g c &&& S) = 0 := by rw [z]; rfl
      simp (disch := first | exact Nat.le_of_ble_eq_true rfl | exact zct_i _ | exact zct_r _ | exact zct_J | exact zct_n | with_reducible assumption | (with_reducible show (zf _ _ _).isSome = true; exact Sh.some (by repeat first | with_reducible assumption | (with_reducible refine Sh.pf ?_ ?_; rotate_left 1; exact fun _ => by decide +kernel) | (with_reducible refine Sh.as ?_ ?_; rotate_left 1; exact fun _ => by decide +kernel) | (with_reducible refine Sh.asr ?_ ?_; rotate_left 1; exact fun _ => by decide +kernel) | with_reducible refine Sh.push ?_ | (with_reducible refine Sh.pfn ?_ ?_; rotate_left 1; omega) | (with_reducible refine Sh.asn ?_ ?_; rotate_left 1; omega)) (by decide) (by decide +kernel) (by decide +kernel)) | exact rfl | exact zb01 _ | decide | fail) only [e25_0, e25_1, e25_2, e25_5, e25_8, e25_9, e25_12, e25_13, e25_14, e25_15, e25_16, e25_19, e25_20, e25_23, e25_24, zgd_true, zcl_ite, zX, Nat.reduceLT, Option.isSome_some, true_and, and_true, zo_some, zoi_some, zon_some, zcl_some, Option.toList_some, Option.toList_none, List.cons_append, List.nil_append, ite_true, ite_false, ↓reduceIte, z10, eq_self, not_true_eq_false, not_false_eq_true, and_self, or_true, true_or, i_9 h, f_9_600 h, f_9_601 h, f_9_602 h, A_10 h, N_10 h, k_holdsBit, q, e1, nx_and, z', z, nI_0, decide_true, Bool.true_and]
    · have z' : ¬ nI (g c &&& S) = 0 := nI_ne0 (Nat.pos_of_ne_zero z) (Nat.lt_of_le_of_lt Nat.and_le_right (by omega))
      simp (disch := first | exact Nat.le_of_ble_eq_true rfl | exact zct_i _ | exact zct_r _ | exact zct_J | exact zct_n | with_reducible assumption | (with_reducible show (zf _ _ _).isSome = true; exact Sh.some (by repeat first | with_reducible assumption | (with_reducible refine Sh.pf ?_ ?_; rotate_left 1; exact fun _ => by decide +kernel) | (with_reducible refine Sh.as ?_ ?_; rotate_left 1; exact fun _ => by decide +kernel) | (with_reducible refine Sh.asr ?_ ?_; rotate_left 1; exact fun _ => by decide +kernel) | with_reducible refine Sh.push ?_ | (with_reducible refine Sh.pfn ?_ ?_; rotate_left 1; omega) | (with_reducible refine Sh.asn ?_ ?_; rotate_left 1; omega)) (by decide) (by decide +kernel) (by decide +kernel)) | exact rfl | exact zb01 _ | decide | fail) only [e25_0, e25_1, e25_2, e25_5, e25_8, e25_9, e25_12, e25_13, e25_14, e25_15, e25_16, e25_19, e25_20, e25_23, e25_24, zgd_true, zcl_ite, zX, Nat.reduceLT, Option.isSome_some, true_and, and_true, zo_some, zoi_some, zon_some, zcl_some, Option.toList_some, Option.toList_none, List.cons_append, List.nil_append, ite_true, ite_false, ↓reduceIte, z10, eq_self, not_true_eq_false, not_false_eq_true, and_self, or_true, true_or, i_9 h, f_9_600 h, f_9_601 h, f_9_602 h, A_10 h, N_10 h, k_holdsBit, q, e1, nx_and, z', z, decide_false, Bool.true_and, Bool.false_eq_true]
theorem k_leastNext_loop {w : zH} {g : Nat → Nat} (C : CW w g) {S : Nat} (hS : S < 256) : ∀ (m i : Nat), i + m = 8 → zrun none (26, 2, [.ref 9, .int (nI S), .int (nI i)], [], w) = some (some (.int (zen (lnB (may g S) m i))), w) := by
  have h := C.1
  intro m
  induction m with
  | zero =>
    intro i hi
    have q1 : (8 : Int32) ≤ nI i := nI_le (a := 8) (by omega) (by omega)
    rw [e26_2]
    simp (disch := first | exact Nat.le_of_ble_eq_true rfl | exact zct_i _ | exact zct_r _ | exact zct_J | exact zct_n | with_reducible assumption | (with_reducible show (zf _ _ _).isSome = true; exact Sh.some (by repeat first | with_reducible assumption | (with_reducible refine Sh.pf ?_ ?_; rotate_left 1; exact fun _ => by decide +kernel) | (with_reducible refine Sh.as ?_ ?_; rotate_left 1; exact fun _ => by decide +kernel) | (with_reducible refine Sh.asr ?_ ?_; rotate_left 1; exact fun _ => by decide +kernel) | with_reducible refine Sh.push ?_ | (with_reducible refine Sh.pfn ?_ ?_; rotate_left 1; omega) | (with_reducible refine Sh.asn ?_ ?_; rotate_left 1; omega)) (by decide) (by decide +kernel) (by decide +kernel)) | exact rfl | exact zb01 _ | decide | fail) only [e26_0, e26_1, e26_3, e26_5, e26_8, e26_9, e26_10, e26_11, e26_14, e26_17, e26_18, e26_19, e26_22, e26_25, e26_27, zgd_true, zcl_ite, zX, Nat.reduceLT, Option.isSome_some, true_and, and_true, zo_some, zoi_some, zon_some, zcl_some, Option.toList_some, Option.toList_none, List.cons_append, List.nil_append, ite_true, ite_false, ↓reduceIte, z10, eq_self, not_true_eq_false, not_false_eq_true, and_self, or_true, true_or, q1, lnB, zen_n]
  | succ m ih =>
    intro i hi
    have hi8 : i < 8 := by omega
    have km := k_may C hS hi8
    have ih1 := ih (i + 1) (by omega)
    rw [e26_2]
    by_cases e : may g S i = true
    · simp (disch := first | exact Nat.le_of_ble_eq_true rfl | exact zct_i _ | exact zct_r _ | exact zct_J | exact zct_n | with_reducible assumption | (with_reducible show (zf _ _ _).isSome = true; exact Sh.some (by repeat first | with_reducible assumption | (with_reducible refine Sh.pf ?_ ?_; rotate_left 1; exact fun _ => by decide +kernel) | (with_reducible refine Sh.as ?_ ?_; rotate_left 1; exact fun _ => by decide +kernel) | (with_reducible refine Sh.asr ?_ ?_; rotate_left 1; exact fun _ => by decide +kernel) | with_reducible refine Sh.push ?_ | (with_reducible refine Sh.pfn ?_ ?_; rotate_left 1; omega) | (with_reducible refine Sh.asn ?_ ?_; rotate_left 1; omega)) (by decide) (by decide +kernel) (by decide +kernel)) | exact rfl | exact zb01 _ | decide | fail) only [e26_0, e26_1, e26_3, e26_5, e26_8, e26_9, e26_10, e26_11, e26_14, e26_17, e26_18, e26_19, e26_22, e26_25, e26_27, zgd_true, zcl_ite, zX, Nat.reduceLT, Option.isSome_some, true_and, and_true, zo_some, zoi_some, zon_some, zcl_some, Option.toList_some, Option.toList_none, List.cons_append, List.nil_append, ite_true, ite_false, ↓reduceIte, z10, eq_self, not_true_eq_false, not_false_eq_true, and_self, or_true, true_or, i_9 h, f_9_600 h, f_9_601 h, f_9_602 h, Gt_8, km, e, lnB, zen_s]
    · simp (disch := first | exact Nat.le_of_ble_eq_true rfl | exact zct_i _ | exact zct_r _ | exact zct_J | exact zct_n | with_reducible assumption | (with_reducible show (zf _ _ _).isSome = true; exact Sh.some (by repeat first | with_reducible assumption | (with_reducible refine Sh.pf ?_ ?_; rotate_left 1; exact fun _ => by decide +kernel) | (with_reducible refine Sh.as ?_ ?_; rotate_left 1; exact fun _ => by decide +kernel) | (with_reducible refine Sh.asr ?_ ?_; rotate_left 1; exact fun _ => by decide +kernel) | with_reducible refine Sh.push ?_ | (with_reducible refine Sh.pfn ?_ ?_; rotate_left 1; omega) | (with_reducible refine Sh.asn ?_ ?_; rotate_left 1; omega)) (by decide) (by decide +kernel) (by decide +kernel)) | exact rfl | exact zb01 _ | decide | fail) only [e26_0, e26_1, e26_3, e26_5, e26_8, e26_9, e26_10, e26_11, e26_14, e26_17, e26_18, e26_19, e26_22, e26_25, e26_27, zgd_true, zcl_ite, zX, Nat.reduceLT, Option.isSome_some, true_and, and_true, zo_some, zoi_some, zon_some, zcl_some, Option.toList_some, Option.toList_none, List.cons_append, List.nil_append, ite_true, ite_false, ↓reduceIte, z10, eq_self, not_true_eq_false, not_false_eq_true, and_self, or_true, true_or, i_9 h, f_9_600 h, f_9_601 h, f_9_602 h, Gt_8, km, e, nI_1, ih1, lnB, Bool.false_eq_true]
/-- the least that may come next -/
def lnx (g : Nat → Nat) (S : Nat) : Option Nat := lnB (may g S) 8 0
theorem k_leastNext {w : zH} {g : Nat → Nat} (C : CW w g) {S : Nat} (hS : S < 256) : zrun none (26, 0, [.ref 9, .int (nI S), zJ], [], w) = some (some (.int (zen (lnx g S))), w) := by
  simp (disch := first | exact Nat.le_of_ble_eq_true rfl | exact zct_i _ | exact zct_r _ | exact zct_J | exact zct_n | with_reducible assumption | (with_reducible show (zf _ _ _).isSome = true; exact Sh.some (by repeat first | with_reducible assumption | (with_reducible refine Sh.pf ?_ ?_; rotate_left 1; exact fun _ => by decide +kernel) | (with_reducible refine Sh.as ?_ ?_; rotate_left 1; exact fun _ => by decide +kernel) | (with_reducible refine Sh.asr ?_ ?_; rotate_left 1; exact fun _ => by decide +kernel) | with_reducible refine Sh.push ?_ | (with_reducible refine Sh.pfn ?_ ?_; rotate_left 1; omega) | (with_reducible refine Sh.asn ?_ ?_; rotate_left 1; omega)) (by decide) (by decide +kernel) (by decide +kernel)) | exact rfl | exact zb01 _ | decide | fail) only [e26_0, e26_1, e26_3, e26_5, e26_8, e26_9, e26_10, e26_11, e26_14, e26_17, e26_18, e26_19, e26_22, e26_25, e26_27, zgd_true, zcl_ite, zX, Nat.reduceLT, Option.isSome_some, true_and, and_true, zo_some, zoi_some, zon_some, zcl_some, Option.toList_some, Option.toList_none, List.cons_append, List.nil_append, ite_true, ite_false, ↓reduceIte, z10, eq_self, not_true_eq_false, not_false_eq_true, and_self, or_true, true_or]
  exact k_leastNext_loop C hS 8 0 (by omega)
theorem lnx_some {g : Nat → Nat} {S c : Nat} (h : lnx g S = some c) : may g S c = true ∧ c < 8 := by
  have := lnB_some 8 0 c h
  exact ⟨this.1, by omega⟩
theorem lnx_none {g : Nat → Nat} {S : Nat} (h : lnx g S = none) : stuck g S := fun c hc => lnB_none 8 0 h c (by omega) (by omega)
theorem LO_clr {g : Nat → Nat} {S c L : Nat} (hS : S < 256) (hc : may g S c = true) (h : LO g (clr S c) L) : LO g S L := by
  refine LO_take hS (fun d hd hx => ?_) (fun d hd h1 h2 => ?_) h
  · rw [clr_bit S c hd, Bool.and_eq_true] at hx
    exact hx.1
  · rw [clr_bit S c hd, h1, Bool.true_and, Bool.not_eq_false', decide_eq_true_iff] at h2
    rw [← h2]
    exact hc
/-- how many -/
def pcn (S : Nat) : Nat := ((List.range 8).filter (fun c => S.testBit c)).length
theorem pcn_clr : ∀ S, S < 256 → ∀ c, c < 8 → S.testBit c = true → pcn (clr S c) + 1 = pcn S := by decide +kernel
theorem pcn_0 : ∀ S, S < 256 → (pcn S = 0 ↔ S = 0) := by decide +kernel
theorem pcn_8 : ∀ S, S < 256 → pcn S ≤ 8 := by decide +kernel
theorem k_leftOver_loop {w : zH} {g : Nat → Nat} (C : CW w g) (x : Int32) : ∀ (m i S : Nat) (v4 : Value), i + m = 8 → S < 256 → pcn S ≤ m → ∃ L, LO g S L ∧ zrun none (27, 4, [.ref 9, .int x, .int (nI S), .int (nI i), v4], [], w) = some (some (.int (nI L)), w) := by
  have h := C.1
  intro m
  induction m with
  | zero =>
    intro i S v4 hi hS hp
    have q1 : (8 : Int32) ≤ nI i := nI_le (a := 8) (by omega) (by omega)
    have e : S = 0 := (pcn_0 S hS).mp (by omega)
    refine ⟨S, LO_stuck hS (fun c hc => ?_), ?_⟩
    · unfold may
      rw [e, Nat.zero_testBit]
      rfl
    · rw [e27_4]
      simp (disch := first | exact Nat.le_of_ble_eq_true rfl | exact zct_i _ | exact zct_r _ | exact zct_J | exact zct_n | with_reducible assumption | (with_reducible show (zf _ _ _).isSome = true; exact Sh.some (by repeat first | with_reducible assumption | (with_reducible refine Sh.pf ?_ ?_; rotate_left 1; exact fun _ => by decide +kernel) | (with_reducible refine Sh.as ?_ ?_; rotate_left 1; exact fun _ => by decide +kernel) | (with_reducible refine Sh.asr ?_ ?_; rotate_left 1; exact fun _ => by decide +kernel) | with_reducible refine Sh.push ?_ | (with_reducible refine Sh.pfn ?_ ?_; rotate_left 1; omega) | (with_reducible refine Sh.asn ?_ ?_; rotate_left 1; omega)) (by decide) (by decide +kernel) (by decide +kernel)) | exact rfl | exact zb01 _ | decide | fail) only [e27_0, e27_1, e27_2, e27_3, e27_5, e27_7, e27_10, e27_11, e27_12, e27_15, e27_17, e27_19, e27_21, e27_24, e27_25, e27_26, e27_27, e27_28, e27_30, e27_31, e27_32, e27_33, e27_34, e27_35, e27_38, e27_41, e27_42, zgd_true, zcl_ite, zX, Nat.reduceLT, Option.isSome_some, true_and, and_true, zo_some, zoi_some, zon_some, zcl_some, Option.toList_some, Option.toList_none, List.cons_append, List.nil_append, ite_true, ite_false, ↓reduceIte, z10, eq_self, not_true_eq_false, not_false_eq_true, and_self, or_true, true_or, q1]
  | succ m ih =>
    intro i S v4 hi hS hp
    have hi8 : i < 8 := by omega
    have kl := k_leastNext C hS
    cases e : lnx g S with
    | none =>
      rw [e, zen_n] at kl
      refine ⟨S, LO_stuck hS (lnx_none e), ?_⟩
      rw [e27_4]
      simp (disch := first | exact Nat.le_of_ble_eq_true rfl | exact zct_i _ | exact zct_r _ | exact zct_J | exact zct_n | with_reducible assumption | (with_reducible show (zf _ _ _).isSome = true; exact Sh.some (by repeat first | with_reducible assumption | (with_reducible refine Sh.pf ?_ ?_; rotate_left 1; exact fun _ => by decide +kernel) | (with_reducible refine Sh.as ?_ ?_; rotate_left 1; exact fun _ => by decide +kernel) | (with_reducible refine Sh.asr ?_ ?_; rotate_left 1; exact fun _ => by decide +kernel) | with_reducible refine Sh.push ?_ | (with_reducible refine Sh.pfn ?_ ?_; rotate_left 1; omega) | (with_reducible refine Sh.asn ?_ ?_; rotate_left 1; omega)) (by decide) (by decide +kernel) (by decide +kernel)) | exact rfl | exact zb01 _ | decide | fail) only [e27_0, e27_1, e27_2, e27_3, e27_5, e27_7, e27_10, e27_11, e27_12, e27_15, e27_17, e27_19, e27_21, e27_24, e27_25, e27_26, e27_27, e27_28, e27_30, e27_31, e27_32, e27_33, e27_34, e27_35, e27_38, e27_41, e27_42, zgd_true, zcl_ite, zX, Nat.reduceLT, Option.isSome_some, true_and, and_true, zo_some, zoi_some, zon_some, zcl_some, Option.toList_some, Option.toList_none, List.cons_append, List.nil_append, ite_true, ite_false, ↓reduceIte, z10, eq_self, not_true_eq_false, not_false_eq_true, and_self, or_true, true_or, i_9 h, f_9_600 h, f_9_601 h, f_9_602 h, Gt_8, kl]
    | some c =>
      rw [e, zen_s] at kl
      obtain ⟨hc, hc8⟩ := lnx_some e
      have hb := ((may_iff hS).mp hc).1
      have c31 : c < 2 ^ 31 := by omega
      have pc := pcn_clr S hS c hc8 hb
      obtain ⟨L, l1, l2⟩ := ih (i + 1) (clr S c) (.int (nI c)) (by omega) (clr_lt hS) (by omega)
      refine ⟨L, LO_clr hS hc l1, ?_⟩
      rw [e27_4]
      simp (disch := first | exact Nat.le_of_ble_eq_true rfl | exact zct_i _ | exact zct_r _ | exact zct_J | exact zct_n | with_reducible assumption | (with_reducible show (zf _ _ _).isSome = true; exact Sh.some (by repeat first | with_reducible assumption | (with_reducible refine Sh.pf ?_ ?_; rotate_left 1; exact fun _ => by decide +kernel) | (with_reducible refine Sh.as ?_ ?_; rotate_left 1; exact fun _ => by decide +kernel) | (with_reducible refine Sh.asr ?_ ?_; rotate_left 1; exact fun _ => by decide +kernel) | with_reducible refine Sh.push ?_ | (with_reducible refine Sh.pfn ?_ ?_; rotate_left 1; omega) | (with_reducible refine Sh.asn ?_ ?_; rotate_left 1; omega)) (by decide) (by decide +kernel) (by decide +kernel)) | exact rfl | exact zb01 _ | decide | fail) only [e27_0, e27_1, e27_2, e27_3, e27_5, e27_7, e27_10, e27_11, e27_12, e27_15, e27_17, e27_19, e27_21, e27_24, e27_25, e27_26, e27_27, e27_28, e27_30, e27_31, e27_32, e27_33, e27_34, e27_35, e27_38, e27_41, e27_42, zgd_true, zcl_ite, zX, Nat.reduceLT, Option.isSome_some, true_and, and_true, zo_some, zoi_some, zon_some, zcl_some, Option.toList_some, Option.toList_none, List.cons_append, List.nil_append, ite_true, ite_false, ↓reduceIte, z10, eq_self, not_true_eq_false, not_false_eq_true, and_self, or_true, true_or, i_9 h, f_9_600 h, f_9_601 h, f_9_602 h, Gt_8, kl, zNone, nclr S hS c hc8, nI_1, l2]
theorem k_leftOver {w : zH} {g : Nat → Nat} (C : CW w g) {S : Nat} (hS : S < 256) : ∃ L, LO g S L ∧ zrun none (27, 0, [.ref 9, .int (nI S), zJ, zJ, zJ], [], w) = some (some (.int (nI L)), w) := by
  obtain ⟨L, h1, h2⟩ := k_leftOver_loop C (nI S) 8 0 S zJ (by omega) hS (pcn_8 S hS)
  refine ⟨L, h1, ?_⟩
  simp (disch := first | exact Nat.le_of_ble_eq_true rfl | exact zct_i _ | exact zct_r _ | exact zct_J | exact zct_n | with_reducible assumption | (with_reducible show (zf _ _ _).isSome = true; exact Sh.some (by repeat first | with_reducible assumption | (with_reducible refine Sh.pf ?_ ?_; rotate_left 1; exact fun _ => by decide +kernel) | (with_reducible refine Sh.as ?_ ?_; rotate_left 1; exact fun _ => by decide +kernel) | (with_reducible refine Sh.asr ?_ ?_; rotate_left 1; exact fun _ => by decide +kernel) | with_reducible refine Sh.push ?_ | (with_reducible refine Sh.pfn ?_ ?_; rotate_left 1; omega) | (with_reducible refine Sh.asn ?_ ?_; rotate_left 1; omega)) (by decide) (by decide +kernel) (by decide +kernel)) | exact rfl | exact zb01 _ | decide | fail) only [e27_0, e27_1, e27_2, e27_3, e27_5, e27_7, e27_10, e27_11, e27_12, e27_15, e27_17, e27_19, e27_21, e27_24, e27_25, e27_26, e27_27, e27_28, e27_30, e27_31, e27_32, e27_33, e27_34, e27_35, e27_38, e27_41, e27_42, zgd_true, zcl_ite, zX, Nat.reduceLT, Option.isSome_some, true_and, and_true, zo_some, zoi_some, zon_some, zcl_some, Option.toList_some, Option.toList_none, List.cons_append, List.nil_append, ite_true, ite_false, ↓reduceIte, z10, eq_self, not_true_eq_false, not_false_eq_true, and_self, or_true, true_or]
  exact h2
/-- the set of those that may come next: m are left, from i on -/
def tkB (g : Nat → Nat) (S : Nat) : Nat → Nat → Nat → Nat
  | 0, _, t => t
  | m + 1, i, t => tkB g S m (i + 1) (if may g S i = true then t ||| 2 ^ i else t)
theorem tkB_lt {g : Nat → Nat} {S : Nat} : ∀ m i t, i + m = 8 → t < 256 → tkB g S m i t < 256 := by
  intro m
  induction m with
  | zero => intro i t _ h; exact h
  | succ m ih =>
    intro i t hi ht
    rw [tkB]
    refine ih _ _ (by omega) ?_
    split
    · exact Nat.or_lt_two_pow (n := 8) ht (Nat.pow_lt_pow_right (by decide) (by omega))
    · exact ht
theorem tkB_bit {g : Nat → Nat} {S : Nat} : ∀ m i t, ∀ d, (tkB g S m i t).testBit d = (t.testBit d || (decide (i ≤ d ∧ d < i + m) && may g S d)) := by
  intro m
  induction m with
  | zero =>
    intro i t d
    have : ¬ (i ≤ d ∧ d < i + 0) := by omega
    rw [tkB, decide_eq_false this, Bool.false_and, Bool.or_false]
  | succ m ih =>
    intro i t d
    rw [tkB, ih]
    by_cases e : i = d
    · subst e
      have h1 : ¬ (i + 1 ≤ i ∧ i < i + 1 + m) := by omega
      have h2 : (i ≤ i ∧ i < i + (m + 1)) := by omega
      rw [decide_eq_false h1, decide_eq_true h2, Bool.false_and, Bool.or_false, Bool.true_and]
      split
      · rename_i q
        rw [Nat.testBit_or, Nat.testBit_two_pow_self, q]
      · rename_i q
        rw [Bool.not_eq_true] at q
        rw [q, Bool.or_false]
    · have h1 : decide (i + 1 ≤ d ∧ d < i + 1 + m) = decide (i ≤ d ∧ d < i + (m + 1)) := by
        apply decide_eq_decide.mpr
        omega
      rw [h1]
      split
      · rw [Nat.testBit_or, Nat.testBit_two_pow_of_ne e, Bool.or_false]
      · rfl
theorem m_leftOf_in {w : zH} {g : Nat → Nat} (C : CW w g) {S : Nat} (hS : S < 256) (x : Int32) (v3 : Value) : ∀ (m i t : Nat), i + m = 8 → t < 256 → v3.category = 1 → zrun none (191, 14, [.ref 35, .int x, .int (nI S), v3, .int (nI t), .int (nI i)], [], w) = zrun none (191, 62, [.ref 35, .int x, .int (nI S), v3, .int (nI (tkB g S m i t)), .int (nI 8)], [], w) := by
  have h := C.1
  intro m
  induction m with
  | zero =>
    intro i t hi ht h3
    have q1 : (8 : Int32) ≤ nI i := nI_le (a := 8) (by omega) (by omega)
    have e8 : i = 8 := by omega
    subst e8
    rw [e191_14]
    simp (disch := first | exact Nat.le_of_ble_eq_true rfl | exact zct_i _ | exact zct_r _ | exact zct_J | exact zct_n | with_reducible assumption | (with_reducible show (zf _ _ _).isSome = true; exact Sh.some (by repeat first | with_reducible assumption | (with_reducible refine Sh.pf ?_ ?_; rotate_left 1; exact fun _ => by decide +kernel) | (with_reducible refine Sh.as ?_ ?_; rotate_left 1; exact fun _ => by decide +kernel) | (with_reducible refine Sh.asr ?_ ?_; rotate_left 1; exact fun _ => by decide +kernel) | with_reducible refine Sh.push ?_ | (with_reducible refine Sh.pfn ?_ ?_; rotate_left 1; omega) | (with_reducible refine Sh.asn ?_ ?_; rotate_left 1; omega)) (by decide) (by decide +kernel) (by decide +kernel)) | exact rfl | exact zb01 _ | decide | fail) only [e191_16, e191_18, e191_21, e191_23, e191_24, e191_26, e191_27, e191_28, e191_29, e191_30, e191_33, e191_34, e191_37, e191_39, e191_40, e191_41, e191_42, e191_45, e191_46, e191_48, e191_49, e191_52, e191_53, e191_54, e191_56, e191_59, zgd_true, zcl_ite, zX, Nat.reduceLT, Option.isSome_some, true_and, and_true, zo_some, zoi_some, zon_some, zcl_some, Option.toList_some, Option.toList_none, List.cons_append, List.nil_append, ite_true, ite_false, ↓reduceIte, z10, eq_self, not_true_eq_false, not_false_eq_true, and_self, or_true, true_or, q1, tkB]
  | succ m ih =>
    intro i t hi ht h3
    have hi8 : i < 8 := by omega
    obtain ⟨-, e2, e3⟩ := C.2 i hi8
    have b := zbt S hS i hi8
    have ih1 := fun t ht => ih (i + 1) t (by omega) ht h3
    have zo := zorb t ht i hi8
    rw [e191_14]
    cases hb : S.testBit i with
    | false =>
      have hm : may g S i = false := by unfold may; rw [hb]; rfl
      rw [hb] at b
      simp only [Bool.false_eq_true, if_false] at b
      have o0 : nI t ||| (0 : Int32) = nI t := Int32.or_zero
      simp (disch := first | exact Nat.le_of_ble_eq_true rfl | exact zct_i _ | exact zct_r _ | exact zct_J | exact zct_n | with_reducible assumption | (with_reducible show (zf _ _ _).isSome = true; exact Sh.some (by repeat first | with_reducible assumption | (with_reducible refine Sh.pf ?_ ?_; rotate_left 1; exact fun _ => by decide +kernel) | (with_reducible refine Sh.as ?_ ?_; rotate_left 1; exact fun _ => by decide +kernel) | (with_reducible refine Sh.asr ?_ ?_; rotate_left 1; exact fun _ => by decide +kernel) | with_reducible refine Sh.push ?_ | (with_reducible refine Sh.pfn ?_ ?_; rotate_left 1; omega) | (with_reducible refine Sh.asn ?_ ?_; rotate_left 1; omega)) (by decide) (by decide +kernel) (by decide +kernel)) | exact rfl | exact zb01 _ | decide | fail) only [e191_16, e191_18, e191_21, e191_23, e191_24, e191_26, e191_27, e191_28, e191_29, e191_30, e191_33, e191_34, e191_37, e191_39, e191_40, e191_41, e191_42, e191_45, e191_46, e191_48, e191_49, e191_52, e191_53, e191_54, e191_56, e191_59, zgd_true, zcl_ite, zX, Nat.reduceLT, Option.isSome_some, true_and, and_true, zo_some, zoi_some, zon_some, zcl_some, Option.toList_some, Option.toList_none, List.cons_append, List.nil_append, ite_true, ite_false, ↓reduceIte, z10, eq_self, not_true_eq_false, not_false_eq_true, and_self, or_true, true_or, Gt_8, b, Int32.reduceAdd, Int32.reduceMul, Int32.reduceSub, Int32.reduceDiv, Int32.reduceLT, Int32.reduceLE, Int32.reduceToNatClampNeg, Nat.reduceAdd, Nat.reduceMul, Nat.reduceLT, Nat.reduceEqDiff, q_0_1, q_0_2, q_0_3, q_0_4, q_0_5, q_0_6, q_0_7, q_0_8, q_0_9, q_1_0, q_1_2, q_1_3, q_1_4, q_1_5, q_1_6, q_1_7, q_1_8, q_1_9, q_2_0, q_2_1, q_2_3, q_2_4, q_2_5, q_2_6, q_2_7, q_2_8, q_2_9, q_3_0, q_3_1, q_3_2, q_3_4, q_3_5, q_3_6, q_3_7, q_3_8, q_3_9, q_4_0, q_4_1, q_4_2, q_4_3, q_4_5, q_4_6, q_4_7, q_4_8, q_4_9, q_5_0, q_5_1, q_5_2, q_5_3, q_5_4, q_5_6, q_5_7, q_5_8, q_5_9, q_6_0, q_6_1, q_6_2, q_6_3, q_6_4, q_6_5, q_6_7, q_6_8, q_6_9, q_7_0, q_7_1, q_7_2, q_7_3, q_7_4, q_7_5, q_7_6, q_7_8, q_7_9, q_8_0, q_8_1, q_8_2, q_8_3, q_8_4, q_8_5, q_8_6, q_8_7, q_8_9, q_9_0, q_9_1, q_9_2, q_9_3, q_9_4, q_9_5, q_9_6, q_9_7, q_9_8, o0, nI_1, ih1 t ht, tkB, hm, Bool.false_eq_true]
    | true =>
      rw [hb] at b
      simp only [if_true] at b
      by_cases z : g i &&& S = 0
      · have z' : nI (g i &&& S) = 0 := by rw [z]; rfl
        have hm : may g S i = true := by unfold may; rw [hb, z]; rfl
        simp (disch := first | exact Nat.le_of_ble_eq_true rfl | exact zct_i _ | exact zct_r _ | exact zct_J | exact zct_n | with_reducible assumption | (with_reducible show (zf _ _ _).isSome = true; exact Sh.some (by repeat first | with_reducible assumption | (with_reducible refine Sh.pf ?_ ?_; rotate_left 1; exact fun _ => by decide +kernel) | (with_reducible refine Sh.as ?_ ?_; rotate_left 1; exact fun _ => by decide +kernel) | (with_reducible refine Sh.asr ?_ ?_; rotate_left 1; exact fun _ => by decide +kernel) | with_reducible refine Sh.push ?_ | (with_reducible refine Sh.pfn ?_ ?_; rotate_left 1; omega) | (with_reducible refine Sh.asn ?_ ?_; rotate_left 1; omega)) (by decide) (by decide +kernel) (by decide +kernel)) | exact rfl | exact zb01 _ | decide | fail) only [e191_16, e191_18, e191_21, e191_23, e191_24, e191_26, e191_27, e191_28, e191_29, e191_30, e191_33, e191_34, e191_37, e191_39, e191_40, e191_41, e191_42, e191_45, e191_46, e191_48, e191_49, e191_52, e191_53, e191_54, e191_56, e191_59, zgd_true, zcl_ite, zX, Nat.reduceLT, Option.isSome_some, true_and, and_true, zo_some, zoi_some, zon_some, zcl_some, Option.toList_some, Option.toList_none, List.cons_append, List.nil_append, ite_true, ite_false, ↓reduceIte, z10, eq_self, not_true_eq_false, not_false_eq_true, and_self, or_true, true_or, i_35 h, f_35_1200 h, f_35_1201 h, f_35_1202 h, f_35_1203 h, f_35_1204 h, f_35_1205 h, f_35_1206 h, f_35_1207 h, f_35_1208 h, f_35_1209 h, f_35_1210 h, f_35_1211 h, f_35_1212 h, f_35_1213 h, f_35_1214 h, f_35_1215 h, f_35_1216 h, f_35_1217 h, f_35_1218 h, f_35_1219 h, f_35_1220 h, f_35_1221 h, f_35_1222 h, f_35_1223 h, f_35_1224 h, f_35_1225 h, f_35_1226 h, f_35_1227 h, f_35_1228 h, f_35_1229 h, f_35_1230 h, f_35_1231 h, f_35_1232 h, f_35_1233 h, f_35_1234 h, f_35_1235 h, f_35_1236 h, f_35_1237 h, f_35_1238 h, f_35_1239 h, f_35_1240 h, f_35_1241 h, f_35_1242 h, f_35_1243 h, f_35_1244 h, f_35_1245 h, f_35_1246 h, f_35_1247 h, f_35_1248 h, f_35_1249 h, f_35_1250 h, A_55 h, N_55 h, Gt_8, b, e2, nx_and, z', zo.1, nI_1, ih1 _ zo.2, tkB, hm]
      · have z' : ¬ nI (g i &&& S) = 0 := nI_ne0 (Nat.pos_of_ne_zero z) (Nat.lt_of_le_of_lt Nat.and_le_right (by omega))
        have hm : may g S i = false := by unfold may; rw [hb, decide_eq_false z]; rfl
        have o0 : nI t ||| (0 : Int32) = nI t := Int32.or_zero
        simp (disch := first | exact Nat.le_of_ble_eq_true rfl | exact zct_i _ | exact zct_r _ | exact zct_J | exact zct_n | with_reducible assumption | (with_reducible show (zf _ _ _).isSome = true; exact Sh.some (by repeat first | with_reducible assumption | (with_reducible refine Sh.pf ?_ ?_; rotate_left 1; exact fun _ => by decide +kernel) | (with_reducible refine Sh.as ?_ ?_; rotate_left 1; exact fun _ => by decide +kernel) | (with_reducible refine Sh.asr ?_ ?_; rotate_left 1; exact fun _ => by decide +kernel) | with_reducible refine Sh.push ?_ | (with_reducible refine Sh.pfn ?_ ?_; rotate_left 1; omega) | (with_reducible refine Sh.asn ?_ ?_; rotate_left 1; omega)) (by decide) (by decide +kernel) (by decide +kernel)) | exact rfl | exact zb01 _ | decide | fail) only [e191_16, e191_18, e191_21, e191_23, e191_24, e191_26, e191_27, e191_28, e191_29, e191_30, e191_33, e191_34, e191_37, e191_39, e191_40, e191_41, e191_42, e191_45, e191_46, e191_48, e191_49, e191_52, e191_53, e191_54, e191_56, e191_59, zgd_true, zcl_ite, zX, Nat.reduceLT, Option.isSome_some, true_and, and_true, zo_some, zoi_some, zon_some, zcl_some, Option.toList_some, Option.toList_none, List.cons_append, List.nil_append, ite_true, ite_false, ↓reduceIte, z10, eq_self, not_true_eq_false, not_false_eq_true, and_self, or_true, true_or, i_35 h, f_35_1200 h, f_35_1201 h, f_35_1202 h, f_35_1203 h, f_35_1204 h, f_35_1205 h, f_35_1206 h, f_35_1207 h, f_35_1208 h, f_35_1209 h, f_35_1210 h, f_35_1211 h, f_35_1212 h, f_35_1213 h, f_35_1214 h, f_35_1215 h, f_35_1216 h, f_35_1217 h, f_35_1218 h, f_35_1219 h, f_35_1220 h, f_35_1221 h, f_35_1222 h, f_35_1223 h, f_35_1224 h, f_35_1225 h, f_35_1226 h, f_35_1227 h, f_35_1228 h, f_35_1229 h, f_35_1230 h, f_35_1231 h, f_35_1232 h, f_35_1233 h, f_35_1234 h, f_35_1235 h, f_35_1236 h, f_35_1237 h, f_35_1238 h, f_35_1239 h, f_35_1240 h, f_35_1241 h, f_35_1242 h, f_35_1243 h, f_35_1244 h, f_35_1245 h, f_35_1246 h, f_35_1247 h, f_35_1248 h, f_35_1249 h, f_35_1250 h, A_55 h, N_55 h, Gt_8, b, e2, nx_and, z', o0, nI_1, ih1 t ht, tkB, hm, Bool.false_eq_true]
theorem nxor (S T : Nat) (hS : S < 256) : nI S &&& (nI T ^^^ (-1)) = nI (S &&& (255 ^^^ T)) := by
  apply Int32.toBitVec_inj.1
  show BitVec.ofNat 32 S &&& (BitVec.ofNat 32 T ^^^ (-1 : Int32).toBitVec) = BitVec.ofNat 32 (S &&& (255 ^^^ T))
  rw [show (-1 : Int32).toBitVec = BitVec.allOnes 32 by decide]
  apply BitVec.eq_of_getLsbD_eq
  intro i hi
  rw [BitVec.getLsbD_and, BitVec.getLsbD_xor, BitVec.getLsbD_allOnes, BitVec.getLsbD_ofNat, BitVec.getLsbD_ofNat, BitVec.getLsbD_ofNat, Nat.testBit_and, Nat.testBit_xor]
  simp only [hi, decide_true, Bool.true_and]
  by_cases h8 : i < 8
  · have : (255 : Nat).testBit i = true := by
      rw [show (255 : Nat) = 2 ^ 8 - 1 from rfl, Nat.testBit_two_pow_sub_one]
      exact decide_eq_true h8
    rw [this]
    cases S.testBit i <;> cases T.testBit i <;> rfl
  · have hp : 2 ^ 8 ≤ 2 ^ i := Nat.pow_le_pow_right (by decide) (by omega)
    have : S.testBit i = false := Nat.testBit_lt_two_pow (by omega)
    rw [this]
    rfl
theorem m_leftOf_loop {w : zH} {g : Nat → Nat} (C : CW w g) (x : Int32) : ∀ (p S : Nat) (v4 v5 : Value), pcn S ≤ p → S < 256 → v4.category = 1 → ∃ L, LO g S L ∧ zrun none (191, 4, [.ref 35, .int x, .int (nI S), .int 1, v4, v5], [], w) = some (some (.int (nI L)), w) := by
  have h := C.1
  intro p
  induction p with
  | zero =>
    intro S v4 v5 hp hS h4
    have e : S = 0 := (pcn_0 S hS).mp (by omega)
    have hst : stuck g S := fun c hc => by
      unfold may
      rw [e, Nat.zero_testBit]
      rfl
    have ht : tkB g S 8 0 0 = 0 := by
      refine (set_nil (tkB_lt 8 0 0 (by omega) (by decide))).mpr (fun d hd => ?_)
      rw [tkB_bit, Nat.zero_testBit, hst d hd, Bool.and_false]
      rfl
    have hin := m_leftOf_in C hS x (.int 1) 8 0 0 (by omega) (by decide) rfl
    rw [ht] at hin
    simp only [show nI 0 = 0 from rfl] at hin
    have nx := nxor S 0 hS
    rw [show S &&& (255 ^^^ 0) = S by rw [e]; rfl] at nx
    simp only [show nI 0 = 0 from rfl] at nx
    refine ⟨S, LO_stuck hS hst, ?_⟩
    rw [e191_4]
    simp (disch := first | exact Nat.le_of_ble_eq_true rfl | exact zct_i _ | exact zct_r _ | exact zct_J | exact zct_n | with_reducible assumption | (with_reducible show (zf _ _ _).isSome = true; exact Sh.some (by repeat first | with_reducible assumption | (with_reducible refine Sh.pf ?_ ?_; rotate_left 1; exact fun _ => by decide +kernel) | (with_reducible refine Sh.as ?_ ?_; rotate_left 1; exact fun _ => by decide +kernel) | (with_reducible refine Sh.asr ?_ ?_; rotate_left 1; exact fun _ => by decide +kernel) | with_reducible refine Sh.push ?_ | (with_reducible refine Sh.pfn ?_ ?_; rotate_left 1; omega) | (with_reducible refine Sh.asn ?_ ?_; rotate_left 1; omega)) (by decide) (by decide +kernel) (by decide +kernel)) | exact rfl | exact zb01 _ | decide | fail) only [e191_5, e191_8, e191_9, e191_11, e191_12, e191_62, e191_63, e191_65, e191_66, e191_67, e191_68, e191_69, e191_71, e191_74, e191_75, e191_78, e191_79, e191_80, e191_83, e191_84, zgd_true, zcl_ite, zX, Nat.reduceLT, Option.isSome_some, true_and, and_true, zo_some, zoi_some, zon_some, zcl_some, Option.toList_some, Option.toList_none, List.cons_append, List.nil_append, ite_true, ite_false, ↓reduceIte, z10, eq_self, not_true_eq_false, not_false_eq_true, and_self, or_true, true_or, hin, nx, z10]
    rw [e191_4]
    simp (disch := first | exact Nat.le_of_ble_eq_true rfl | exact zct_i _ | exact zct_r _ | exact zct_J | exact zct_n | with_reducible assumption | (with_reducible show (zf _ _ _).isSome = true; exact Sh.some (by repeat first | with_reducible assumption | (with_reducible refine Sh.pf ?_ ?_; rotate_left 1; exact fun _ => by decide +kernel) | (with_reducible refine Sh.as ?_ ?_; rotate_left 1; exact fun _ => by decide +kernel) | (with_reducible refine Sh.asr ?_ ?_; rotate_left 1; exact fun _ => by decide +kernel) | with_reducible refine Sh.push ?_ | (with_reducible refine Sh.pfn ?_ ?_; rotate_left 1; omega) | (with_reducible refine Sh.asn ?_ ?_; rotate_left 1; omega)) (by decide) (by decide +kernel) (by decide +kernel)) | exact rfl | exact zb01 _ | decide | fail) only [e191_5, e191_8, e191_9, e191_11, e191_12, e191_62, e191_63, e191_65, e191_66, e191_67, e191_68, e191_69, e191_71, e191_74, e191_75, e191_78, e191_79, e191_80, e191_83, e191_84, zgd_true, zcl_ite, zX, Nat.reduceLT, Option.isSome_some, true_and, and_true, zo_some, zoi_some, zon_some, zcl_some, Option.toList_some, Option.toList_none, List.cons_append, List.nil_append, ite_true, ite_false, ↓reduceIte, z10, eq_self, not_true_eq_false, not_false_eq_true, and_self, or_true, true_or]
  | succ p ih =>
    intro S v4 v5 hp hS h4
    have hT := tkB_lt (g := g) (S := S) 8 0 0 (by omega) (by decide)
    have hbit : ∀ d, d < 8 → (tkB g S 8 0 0).testBit d = may g S d := by
      intro d hd
      rw [tkB_bit, Nat.zero_testBit, decide_eq_true (show 0 ≤ d ∧ d < 0 + 8 by omega)]
      simp
    have hin := m_leftOf_in C hS x (.int 1) 8 0 0 (by omega) (by decide) rfl
    generalize tkB g S 8 0 0 = T at hT hbit hin
    have nx := nxor S T hS
    simp only [show nI 0 = 0 from rfl] at hin
    have hlt : S &&& (255 ^^^ T) < 256 := Nat.lt_of_le_of_lt Nat.and_le_left hS
    have hb2 : ∀ d, d < 8 → (S &&& (255 ^^^ T)).testBit d = (S.testBit d && !may g S d) := by
      intro d hd
      rw [Nat.testBit_and, Nat.testBit_xor, show (255 : Nat) = 2 ^ 8 - 1 from rfl, Nat.testBit_two_pow_sub_one, hbit d hd]
      simp [hd]
    by_cases z : T = 0
    · subst z
      have hst : stuck g S := fun c hc => by rw [← hbit c hc, Nat.zero_testBit]
      have e : S &&& (255 ^^^ 0) = S := set_ext hlt hS (fun d hd => by rw [hb2 d hd, hst d hd]; simp)
      rw [e] at nx
      simp only [show nI 0 = 0 from rfl] at nx hin
      refine ⟨S, LO_stuck hS hst, ?_⟩
      rw [e191_4]
      simp (disch := first | exact Nat.le_of_ble_eq_true rfl | exact zct_i _ | exact zct_r _ | exact zct_J | exact zct_n | with_reducible assumption | (with_reducible show (zf _ _ _).isSome = true; exact Sh.some (by repeat first | with_reducible assumption | (with_reducible refine Sh.pf ?_ ?_; rotate_left 1; exact fun _ => by decide +kernel) | (with_reducible refine Sh.as ?_ ?_; rotate_left 1; exact fun _ => by decide +kernel) | (with_reducible refine Sh.asr ?_ ?_; rotate_left 1; exact fun _ => by decide +kernel) | with_reducible refine Sh.push ?_ | (with_reducible refine Sh.pfn ?_ ?_; rotate_left 1; omega) | (with_reducible refine Sh.asn ?_ ?_; rotate_left 1; omega)) (by decide) (by decide +kernel) (by decide +kernel)) | exact rfl | exact zb01 _ | decide | fail) only [e191_5, e191_8, e191_9, e191_11, e191_12, e191_62, e191_63, e191_65, e191_66, e191_67, e191_68, e191_69, e191_71, e191_74, e191_75, e191_78, e191_79, e191_80, e191_83, e191_84, zgd_true, zcl_ite, zX, Nat.reduceLT, Option.isSome_some, true_and, and_true, zo_some, zoi_some, zon_some, zcl_some, Option.toList_some, Option.toList_none, List.cons_append, List.nil_append, ite_true, ite_false, ↓reduceIte, z10, eq_self, not_true_eq_false, not_false_eq_true, and_self, or_true, true_or, hin, nx, z10]
      rw [e191_4]
      simp (disch := first | exact Nat.le_of_ble_eq_true rfl | exact zct_i _ | exact zct_r _ | exact zct_J | exact zct_n | with_reducible assumption | (with_reducible show (zf _ _ _).isSome = true; exact Sh.some (by repeat first | with_reducible assumption | (with_reducible refine Sh.pf ?_ ?_; rotate_left 1; exact fun _ => by decide +kernel) | (with_reducible refine Sh.as ?_ ?_; rotate_left 1; exact fun _ => by decide +kernel) | (with_reducible refine Sh.asr ?_ ?_; rotate_left 1; exact fun _ => by decide +kernel) | with_reducible refine Sh.push ?_ | (with_reducible refine Sh.pfn ?_ ?_; rotate_left 1; omega) | (with_reducible refine Sh.asn ?_ ?_; rotate_left 1; omega)) (by decide) (by decide +kernel) (by decide +kernel)) | exact rfl | exact zb01 _ | decide | fail) only [e191_5, e191_8, e191_9, e191_11, e191_12, e191_62, e191_63, e191_65, e191_66, e191_67, e191_68, e191_69, e191_71, e191_74, e191_75, e191_78, e191_79, e191_80, e191_83, e191_84, zgd_true, zcl_ite, zX, Nat.reduceLT, Option.isSome_some, true_and, and_true, zo_some, zoi_some, zon_some, zcl_some, Option.toList_some, Option.toList_none, List.cons_append, List.nil_append, ite_true, ite_false, ↓reduceIte, z10, eq_self, not_true_eq_false, not_false_eq_true, and_self, or_true, true_or]
    · have z' : ¬ nI T = 0 := nI_ne0 (Nat.pos_of_ne_zero z) (by omega)
      have hlt2 : pcn (S &&& (255 ^^^ T)) < pcn S := by
        have hex : ∃ d, d < 8 ∧ T.testBit d = true := by
          refine Classical.byContradiction (fun q => z ((set_nil hT).mpr (fun d hd => ?_)))
          cases e : T.testBit d with
          | false => rfl
          | true => exact absurd ⟨d, hd, e⟩ q
        obtain ⟨d, hd, hd2⟩ := hex
        rw [hbit d hd] at hd2
        have hSd := ((may_iff hS).mp hd2).1
        have p1 := pcn_clr S hS d hd hSd
        have : pcn (S &&& (255 ^^^ T)) ≤ pcn (clr S d) := by
          unfold pcn
          rw [← List.countP_eq_length_filter, ← List.countP_eq_length_filter]
          refine List.countP_mono_left (fun c hc hq => ?_)
          have hc8 : c < 8 := List.mem_range.mp hc
          rw [hb2 c hc8, Bool.and_eq_true] at hq
          rw [clr_bit S d hc8, hq.1, Bool.true_and, Bool.not_eq_true', decide_eq_false_iff_not]
          intro e
          subst e
          rw [hd2] at hq
          cases hq.2
        omega
      obtain ⟨L, l1, l2⟩ := ih (S &&& (255 ^^^ T)) (.int (nI T)) (.int (nI 8)) (by omega) hlt rfl
      refine ⟨L, LO_take hS (fun d hd hx => ?_) (fun d hd h1 h2 => ?_) l1, ?_⟩
      · rw [hb2 d hd, Bool.and_eq_true] at hx
        exact hx.1
      · rw [hb2 d hd, h1, Bool.true_and, Bool.not_eq_false'] at h2
        exact h2
      · rw [e191_4]
        simp (disch := first | exact Nat.le_of_ble_eq_true rfl | exact zct_i _ | exact zct_r _ | exact zct_J | exact zct_n | with_reducible assumption | (with_reducible show (zf _ _ _).isSome = true; exact Sh.some (by repeat first | with_reducible assumption | (with_reducible refine Sh.pf ?_ ?_; rotate_left 1; exact fun _ => by decide +kernel) | (with_reducible refine Sh.as ?_ ?_; rotate_left 1; exact fun _ => by decide +kernel) | (with_reducible refine Sh.asr ?_ ?_; rotate_left 1; exact fun _ => by decide +kernel) | with_reducible refine Sh.push ?_ | (with_reducible refine Sh.pfn ?_ ?_; rotate_left 1; omega) | (with_reducible refine Sh.asn ?_ ?_; rotate_left 1; omega)) (by decide) (by decide +kernel) (by decide +kernel)) | exact rfl | exact zb01 _ | decide | fail) only [e191_5, e191_8, e191_9, e191_11, e191_12, e191_62, e191_63, e191_65, e191_66, e191_67, e191_68, e191_69, e191_71, e191_74, e191_75, e191_78, e191_79, e191_80, e191_83, e191_84, zgd_true, zcl_ite, zX, Nat.reduceLT, Option.isSome_some, true_and, and_true, zo_some, zoi_some, zon_some, zcl_some, Option.toList_some, Option.toList_none, List.cons_append, List.nil_append, ite_true, ite_false, ↓reduceIte, z10, eq_self, not_true_eq_false, not_false_eq_true, and_self, or_true, true_or, hin, nx, z', z10, l2]
theorem m_leftOf {w : zH} {g : Nat → Nat} (C : CW w g) {S : Nat} (hS : S < 256) : ∃ L, LO g S L ∧ zrun none (191, 0, [.ref 35, .int (nI S), zJ, zJ, zJ, zJ], [], w) = some (some (.int (nI L)), w) := by
  obtain ⟨L, h1, h2⟩ := m_leftOf_loop C (nI S) 8 S zJ zJ (pcn_8 S hS) hS rfl
  refine ⟨L, h1, ?_⟩
  simp (disch := first | exact Nat.le_of_ble_eq_true rfl | exact zct_i _ | exact zct_r _ | exact zct_J | exact zct_n | with_reducible assumption | (with_reducible show (zf _ _ _).isSome = true; exact Sh.some (by repeat first | with_reducible assumption | (with_reducible refine Sh.pf ?_ ?_; rotate_left 1; exact fun _ => by decide +kernel) | (with_reducible refine Sh.as ?_ ?_; rotate_left 1; exact fun _ => by decide +kernel) | (with_reducible refine Sh.asr ?_ ?_; rotate_left 1; exact fun _ => by decide +kernel) | with_reducible refine Sh.push ?_ | (with_reducible refine Sh.pfn ?_ ?_; rotate_left 1; omega) | (with_reducible refine Sh.asn ?_ ?_; rotate_left 1; omega)) (by decide) (by decide +kernel) (by decide +kernel)) | exact rfl | exact zb01 _ | decide | fail) only [e191_0, e191_1, e191_2, e191_3, zgd_true, zcl_ite, zX, Nat.reduceLT, Option.isSome_some, true_and, and_true, zo_some, zoi_some, zon_some, zcl_some, Option.toList_some, Option.toList_none, List.cons_append, List.nil_append, ite_true, ite_false, ↓reduceIte, z10, eq_self, not_true_eq_false, not_false_eq_true, and_self, or_true, true_or]
  exact h2
