/-! numbers and packed words -/
def num (t : Nat → Nat) : Nat → Nat → Nat → Nat
  | 0, _, v => v
  | m + 1, k, v => num t m (k + 1) (10 * v + (t k - 48))
def pVal (t : Nat → Nat) (S : zTk) : Nat := num t (tsx S - tss S) (tss S) 0
theorem qF_le {c : Nat} (h : qF c = true) : 48 ≤ c ∧ c ≤ 57 := of_decide_eq_true h
theorem qL_le {c : Nat} (h : qL c = true) : 97 ≤ c ∧ c ≤ 122 := of_decide_eq_true h
theorem num_lt (t : Nat → Nat) : ∀ m k v, (∀ i, k ≤ i → i < k + m → qF (t i) = true) → num t m k v < 10 ^ m * (v + 1) := by
  intro m
  induction m with
  | zero => intro k v _; rw [num]; omega
  | succ m ih =>
    intro k v h
    rw [num]
    have h0 := qF_le (h k (Nat.le_refl _) (by omega))
    have := ih (k + 1) (10 * v + (t k - 48)) (fun i a b => h i (by omega) (by omega))
    have e : 10 ^ m * (10 * v + (t k - 48) + 1) ≤ 10 ^ m * (10 * (v + 1)) := Nat.mul_le_mul_left _ (by omega)
    rw [Nat.pow_succ, Nat.mul_assoc]
    omega
theorem pVal_lt {t : Nat → Nat} {n : Nat} {S : zTk} (h : zOk t n S) (k2 : tsk S = 2) : pVal t S < 100000 := by
  obtain ⟨h5, hq⟩ := h.2.2.2.2.2 k2
  have := num_lt t (tsx S - tss S) (tss S) 0 (fun i a b => hq i a (by have := h.2.1; omega))
  have e : 10 ^ (tsx S - tss S) ≤ 10 ^ 5 := Nat.pow_le_pow_right (by decide) h5
  unfold pVal
  omega
theorem k_value_loop {t : Nat → Nat} {n x : Nat} {u : zH} (h : Sh u) (hT : zTp 6 t n u) (c1 : gi u 5 901 = nI n) (c4 : gi u 5 904 = nI x) (hx : x ≤ n) : ∀ m k v, k + m = x → (∀ i, k ≤ i → i < x → qF (t i) = true) → zrun none (61, 7, [.ref 5, .int (nI v), .int (nI k)], [], u) = some (some (.int (nI (num t m k v))), u) := by
  have hn := hT.1
  intro m
  induction m with
  | zero =>
    intro k v hk _
    have q1 : nI x ≤ nI k := nI_le (by omega) (by omega)
    rw [e61_7, num]
    simp (disch := first | exact Nat.le_of_ble_eq_true rfl | exact zct_i _ | exact zct_r _ | exact zct_J | exact zct_n | with_reducible assumption | (with_reducible show (zf _ _ _).isSome = true; exact Sh.some (by repeat first | with_reducible assumption | (with_reducible refine Sh.pf ?_ ?_; rotate_left 1; exact fun _ => by decide +kernel) | (with_reducible refine Sh.as ?_ ?_; rotate_left 1; exact fun _ => by decide +kernel) | (with_reducible refine Sh.asr ?_ ?_; rotate_left 1; exact fun _ => by decide +kernel) | with_reducible refine Sh.push ?_ | (with_reducible refine Sh.pfn ?_ ?_; rotate_left 1; omega) | (with_reducible refine Sh.asn ?_ ?_; rotate_left 1; omega)) (by decide) (by decide +kernel) (by decide +kernel)) | exact rfl | exact zb01 _ | decide | fail) only [e61_8, e61_9, e61_12, e61_15, e61_17, e61_18, e61_19, e61_20, e61_21, e61_24, e61_26, e61_27, e61_28, e61_29, e61_32, e61_35, e61_36, zgd_true, zcl_ite, zX, Nat.reduceLT, Option.isSome_some, true_and, and_true, zo_some, zoi_some, zon_some, zcl_some, Option.toList_some, Option.toList_none, List.cons_append, List.nil_append, ite_true, ite_false, ↓reduceIte, z10, eq_self, not_true_eq_false, not_false_eq_true, and_self, or_true, true_or, i_5 h, f_5_900 h, f_5_901 h, f_5_902 h, f_5_903 h, f_5_904 h, f_5_905 h, f_5_906 h, c4, q1]
  | succ m ih =>
    intro k v hk hq
    have q1 : ¬ nI x ≤ nI k := nI_ge (by omega) (by omega)
    have h0 := qF_le (hq k (Nat.le_refl _) (by omega))
    have bt := k_byteAt (i := k) h hT c1 (by omega)
    have ih1 := ih (k + 1) (10 * v + (t k - 48)) (by omega) (fun i a b => hq i (by omega) b)
    have e1 : nI (t k) - 48 = nI (t k - 48) := pk_sub (b := 48) h0.1
    have e2 : 10 * nI v = nI (10 * v) := pk_mul 10 v
    rw [e61_7, num]
    simp (disch := first | exact Nat.le_of_ble_eq_true rfl | exact zct_i _ | exact zct_r _ | exact zct_J | exact zct_n | with_reducible assumption | (with_reducible show (zf _ _ _).isSome = true; exact Sh.some (by repeat first | with_reducible assumption | (with_reducible refine Sh.pf ?_ ?_; rotate_left 1; exact fun _ => by decide +kernel) | (with_reducible refine Sh.as ?_ ?_; rotate_left 1; exact fun _ => by decide +kernel) | (with_reducible refine Sh.asr ?_ ?_; rotate_left 1; exact fun _ => by decide +kernel) | with_reducible refine Sh.push ?_ | (with_reducible refine Sh.pfn ?_ ?_; rotate_left 1; omega) | (with_reducible refine Sh.asn ?_ ?_; rotate_left 1; omega)) (by decide) (by decide +kernel) (by decide +kernel)) | exact rfl | exact zb01 _ | decide | fail) only [e61_8, e61_9, e61_12, e61_15, e61_17, e61_18, e61_19, e61_20, e61_21, e61_24, e61_26, e61_27, e61_28, e61_29, e61_32, e61_35, e61_36, zgd_true, zcl_ite, zX, Nat.reduceLT, Option.isSome_some, true_and, and_true, zo_some, zoi_some, zon_some, zcl_some, Option.toList_some, Option.toList_none, List.cons_append, List.nil_append, ite_true, ite_false, ↓reduceIte, z10, eq_self, not_true_eq_false, not_false_eq_true, and_self, or_true, true_or, i_5 h, f_5_900 h, f_5_901 h, f_5_902 h, f_5_903 h, f_5_904 h, f_5_905 h, f_5_906 h, c4, q1, bt, e1, e2, nI_add, nI_1, ih1]
def pTN (a b : Nat) (t : Nat → Nat) (n : Nat) (S : zTk) : zTk := if tsf S = 0 then (if tsk S = 2 then (if a ≤ pVal t S ∧ pVal t S ≤ b then pAdv t n S else pRef S 2) else pRef S 1) else S
theorem pRef_f {S : zTk} {c : Nat} (h : tsf S = 0) : tsf (pRef S c) = c := by unfold pRef; rw [if_pos h]
theorem k_takeNumber {t : Nat → Nat} {n a b : Nat} {S : zTk} {u : zH} (H : cO t n S u) (ha : a < 2 ^ 31) (hb : b < 2 ^ 31) : ∃ (u' : zH) (v : Int32), zFr [] fK u u' ∧ cO t n (pTN a b t n S) u' ∧ zrun none (60, 0, [.ref 5, .int (nI a), .int (nI b), zJ], [], u) = some (some (.int v), u') ∧ (tsf (pTN a b t n S) = 0 → v = nI (pVal t S)) := by
  have H' := H
  obtain ⟨h, hT, ⟨c1, c2, c3, c4, c5, c6⟩, hk⟩ := H
  have p5 := i_5 h
  unfold pTN
  by_cases f0 : tsf S = 0
  · rw [if_pos f0]
    rw [f0] at c5
    by_cases k2 : tsk S = 2
    · rw [if_pos k2]
      rw [k2] at c2
      have lo := k_value_loop h hT c1 c4 hk.2.2.1 (tsx S - tss S) (tss S) 0 (by have := hk.2.1; omega) (hk.2.2.2.2.2 k2).2
      have vl := pVal_lt hk k2
      rw [show num t (tsx S - tss S) (tss S) 0 = pVal t S from rfl, nI_0] at lo
      have e1 := nI_leI (a := a) (b := pVal t S) ha (by omega)
      have e2 := nI_leI (a := pVal t S) (b := b) (by omega) hb
      by_cases q : a ≤ pVal t S ∧ pVal t S ≤ b
      · rw [if_pos q]
        obtain ⟨u', f, g, ee⟩ := k_adv H'
        refine ⟨u', nI (pVal t S), f, g, ?_, fun _ => rfl⟩
        simp (disch := first | exact Nat.le_of_ble_eq_true rfl | exact zct_i _ | exact zct_r _ | exact zct_J | exact zct_n | with_reducible assumption | (with_reducible show (zf _ _ _).isSome = true; exact Sh.some (by repeat first | with_reducible assumption | (with_reducible refine Sh.pf ?_ ?_; rotate_left 1; exact fun _ => by decide +kernel) | (with_reducible refine Sh.as ?_ ?_; rotate_left 1; exact fun _ => by decide +kernel) | (with_reducible refine Sh.asr ?_ ?_; rotate_left 1; exact fun _ => by decide +kernel) | with_reducible refine Sh.push ?_ | (with_reducible refine Sh.pfn ?_ ?_; rotate_left 1; omega) | (with_reducible refine Sh.asn ?_ ?_; rotate_left 1; omega)) (by decide) (by decide +kernel) (by decide +kernel)) | exact rfl | exact zb01 _ | decide | fail) only [e60_0, e60_1, e60_4, e60_7, e60_9, e60_10, e60_11, e60_14, e60_15, e60_18, e60_19, e60_22, e60_25, e60_27, e60_28, e60_29, e60_32, e60_33, e60_36, e60_37, e60_38, e60_41, e60_44, e60_45, e60_46, e60_47, e60_50, e60_53, e60_54, e60_55, e60_58, e60_61, e60_62, e60_65, e60_66, e61_0, e61_1, e61_2, e61_3, e61_6, zgd_true, zcl_ite, zX, Nat.reduceLT, Option.isSome_some, true_and, and_true, zo_some, zoi_some, zon_some, zcl_some, Option.toList_some, Option.toList_none, List.cons_append, List.nil_append, ite_true, ite_false, ↓reduceIte, z10, eq_self, not_true_eq_false, not_false_eq_true, and_self, or_true, true_or, i_5 h, f_5_900 h, f_5_901 h, f_5_902 h, f_5_903 h, f_5_904 h, f_5_905 h, f_5_906 h, c5, c2, c3, nI_0, p5, show (nI 2 = 2) = True from eq_true rfl, lo, k_within, e1, e2, eq_true q, ee]
      · rw [if_neg q]
        obtain ⟨u', f, g, ee⟩ := k_refuse (c := 2) H' (by decide)
        refine ⟨u', nI (pVal t S), f, g, ?_, fun _ => rfl⟩
        simp (disch := first | exact Nat.le_of_ble_eq_true rfl | exact zct_i _ | exact zct_r _ | exact zct_J | exact zct_n | with_reducible assumption | (with_reducible show (zf _ _ _).isSome = true; exact Sh.some (by repeat first | with_reducible assumption | (with_reducible refine Sh.pf ?_ ?_; rotate_left 1; exact fun _ => by decide +kernel) | (with_reducible refine Sh.as ?_ ?_; rotate_left 1; exact fun _ => by decide +kernel) | (with_reducible refine Sh.asr ?_ ?_; rotate_left 1; exact fun _ => by decide +kernel) | with_reducible refine Sh.push ?_ | (with_reducible refine Sh.pfn ?_ ?_; rotate_left 1; omega) | (with_reducible refine Sh.asn ?_ ?_; rotate_left 1; omega)) (by decide) (by decide +kernel) (by decide +kernel)) | exact rfl | exact zb01 _ | decide | fail) only [e60_0, e60_1, e60_4, e60_7, e60_9, e60_10, e60_11, e60_14, e60_15, e60_18, e60_19, e60_22, e60_25, e60_27, e60_28, e60_29, e60_32, e60_33, e60_36, e60_37, e60_38, e60_41, e60_44, e60_45, e60_46, e60_47, e60_50, e60_53, e60_54, e60_55, e60_58, e60_61, e60_62, e60_65, e60_66, e61_0, e61_1, e61_2, e61_3, e61_6, zgd_true, zcl_ite, zX, Nat.reduceLT, Option.isSome_some, true_and, and_true, zo_some, zoi_some, zon_some, zcl_some, Option.toList_some, Option.toList_none, List.cons_append, List.nil_append, ite_true, ite_false, ↓reduceIte, z10, eq_self, not_true_eq_false, not_false_eq_true, and_self, or_true, true_or, i_5 h, f_5_900 h, f_5_901 h, f_5_902 h, f_5_903 h, f_5_904 h, f_5_905 h, f_5_906 h, c5, c2, c3, nI_0, p5, show (nI 2 = 2) = True from eq_true rfl, lo, k_within, e1, e2, eq_false q, show zrun none (54, 0, [.ref 5, .int 2], [], u) = _ from ee]
    · rw [if_neg k2]
      have q : (nI (tsk S) = 2) = False := eq_false (fun q => k2 ((nI_eq (b := 2) (by have := hk.1; omega) (by decide)).mp q))
      obtain ⟨u', f, g, ee⟩ := k_refuse (c := 1) H' (by decide)
      refine ⟨u', -1000000, f, g, ?_, fun z => by rw [pRef_f f0] at z; cases z⟩
      simp (disch := first | exact Nat.le_of_ble_eq_true rfl | exact zct_i _ | exact zct_r _ | exact zct_J | exact zct_n | with_reducible assumption | (with_reducible show (zf _ _ _).isSome = true; exact Sh.some (by repeat first | with_reducible assumption | (with_reducible refine Sh.pf ?_ ?_; rotate_left 1; exact fun _ => by decide +kernel) | (with_reducible refine Sh.as ?_ ?_; rotate_left 1; exact fun _ => by decide +kernel) | (with_reducible refine Sh.asr ?_ ?_; rotate_left 1; exact fun _ => by decide +kernel) | with_reducible refine Sh.push ?_ | (with_reducible refine Sh.pfn ?_ ?_; rotate_left 1; omega) | (with_reducible refine Sh.asn ?_ ?_; rotate_left 1; omega)) (by decide) (by decide +kernel) (by decide +kernel)) | exact rfl | exact zb01 _ | decide | fail) only [e60_0, e60_1, e60_4, e60_7, e60_9, e60_10, e60_11, e60_14, e60_15, e60_18, e60_19, e60_22, e60_25, e60_27, e60_28, e60_29, e60_32, e60_33, e60_36, e60_37, e60_38, e60_41, e60_44, e60_45, e60_46, e60_47, e60_50, e60_53, e60_54, e60_55, e60_58, e60_61, e60_62, e60_65, e60_66, zgd_true, zcl_ite, zX, Nat.reduceLT, Option.isSome_some, true_and, and_true, zo_some, zoi_some, zon_some, zcl_some, Option.toList_some, Option.toList_none, List.cons_append, List.nil_append, ite_true, ite_false, ↓reduceIte, z10, eq_self, not_true_eq_false, not_false_eq_true, and_self, or_true, true_or, i_5 h, f_5_900 h, f_5_901 h, f_5_902 h, f_5_903 h, f_5_904 h, f_5_905 h, f_5_906 h, c5, c2, nI_0, p5, q, show zrun none (54, 0, [.ref 5, .int 1], [], u) = _ from ee]
  · rw [if_neg f0]
    refine ⟨u, -1000000, zFr.refl, H', ?_, fun z => absurd z f0⟩
    simp (disch := first | exact Nat.le_of_ble_eq_true rfl | exact zct_i _ | exact zct_r _ | exact zct_J | exact zct_n | with_reducible assumption | (with_reducible show (zf _ _ _).isSome = true; exact Sh.some (by repeat first | with_reducible assumption | (with_reducible refine Sh.pf ?_ ?_; rotate_left 1; exact fun _ => by decide +kernel) | (with_reducible refine Sh.as ?_ ?_; rotate_left 1; exact fun _ => by decide +kernel) | (with_reducible refine Sh.asr ?_ ?_; rotate_left 1; exact fun _ => by decide +kernel) | with_reducible refine Sh.push ?_ | (with_reducible refine Sh.pfn ?_ ?_; rotate_left 1; omega) | (with_reducible refine Sh.asn ?_ ?_; rotate_left 1; omega)) (by decide) (by decide +kernel) (by decide +kernel)) | exact rfl | exact zb01 _ | decide | fail) only [e60_0, e60_1, e60_4, e60_7, e60_9, e60_10, e60_11, e60_14, e60_15, e60_18, e60_19, e60_22, e60_25, e60_27, e60_28, e60_29, e60_32, e60_33, e60_36, e60_37, e60_38, e60_41, e60_44, e60_45, e60_46, e60_47, e60_50, e60_53, e60_54, e60_55, e60_58, e60_61, e60_62, e60_65, e60_66, zgd_true, zcl_ite, zX, Nat.reduceLT, Option.isSome_some, true_and, and_true, zo_some, zoi_some, zon_some, zcl_some, Option.toList_some, Option.toList_none, List.cons_append, List.nil_append, ite_true, ite_false, ↓reduceIte, z10, eq_self, not_true_eq_false, not_false_eq_true, and_self, or_true, true_or, i_5 h, f_5_900 h, f_5_901 h, f_5_902 h, f_5_903 h, f_5_904 h, f_5_905 h, f_5_906 h, c5, (nI3 hk.2.2.2.1 f0).1]
/-- a word as the model packs it -/
def pkw (t : Nat → Nat) : Nat → Nat → Nat → Nat
  | 0, _, v => v
  | m + 1, k, v => pkw t m (k + 1) (256 * v + t k)
def pack (l : List Nat) : Nat := l.foldl (fun a b => 256 * a + b) 0
theorem pkw_fold (t : Nat → Nat) : ∀ m k v, pkw t m k v = ((List.range m).map (fun i => t (k + i))).foldl (fun a b => 256 * a + b) v := by
  intro m
  induction m with
  | zero => intro k v; rfl
  | succ m ih =>
    intro k v
    rw [pkw, ih, List.range_succ_eq_map, List.map_cons, List.foldl_cons, List.map_map]
    rw [show ((fun i => t (k + i)) ∘ Nat.succ) = (fun i => t (k + 1 + i)) from funext (fun i => by show t (k + (i + 1)) = _; rw [show k + (i + 1) = k + 1 + i by omega])]
    rfl
def pkr : List Nat → Nat
  | [] => 0
  | b :: r => 256 * pkr r + b
theorem pack_r (l : List Nat) : pack l = pkr l.reverse := by
  unfold pack
  rw [List.foldl_eq_foldr_reverse]
  generalize l.reverse = r
  induction r with
  | nil => rfl
  | cons b r ih => rw [List.foldr_cons, ih, pkr]
theorem pkr_inj : ∀ l l' : List Nat, (∀ b ∈ l, 0 < b ∧ b < 256) → (∀ b ∈ l', 0 < b ∧ b < 256) → pkr l = pkr l' → l = l' := by
  intro l
  induction l with
  | nil =>
    intro l' _ h e
    cases l' with
    | nil => rfl
    | cons b r => have := h b (List.mem_cons_self ..); rw [pkr, pkr] at e; omega
  | cons b r ih =>
    intro l' h h' e
    cases l' with
    | nil => have := h b (List.mem_cons_self ..); rw [pkr, pkr] at e; omega
    | cons b' r' =>
      have h1 := h b (List.mem_cons_self ..)
      have h2 := h' b' (List.mem_cons_self ..)
      rw [pkr, pkr] at e
      have eb : b = b' := by omega
      subst eb
      rw [ih r' (fun x hx => h x (List.mem_cons_of_mem _ hx)) (fun x hx => h' x (List.mem_cons_of_mem _ hx)) (by omega)]
theorem pack_inj {l l' : List Nat} (h : ∀ b ∈ l, 0 < b ∧ b < 256) (h' : ∀ b ∈ l', 0 < b ∧ b < 256) (e : pack l = pack l') : l = l' := by
  rw [pack_r, pack_r] at e
  have := pkr_inj _ _ (fun b hb => h b (List.mem_reverse.mp hb)) (fun b hb => h' b (List.mem_reverse.mp hb)) e
  have := congrArg List.reverse this
  rwa [List.reverse_reverse, List.reverse_reverse] at this
theorem pkr_lt : ∀ l : List Nat, (∀ b ∈ l, b < 256) → pkr l < 256 ^ l.length := by
  intro l
  induction l with
  | nil => intro _; decide
  | cons b r ih =>
    intro h
    have h1 := h b (List.mem_cons_self ..)
    have h2 := ih (fun x hx => h x (List.mem_cons_of_mem _ hx))
    rw [pkr, List.length_cons, Nat.pow_succ]
    omega
theorem pack_lt {l : List Nat} (h : ∀ b ∈ l, b < 256) (hl : l.length ≤ 7) : pack l < 2 ^ 56 := by
  rw [pack_r]
  have h1 := pkr_lt l.reverse (fun b hb => h b (List.mem_reverse.mp hb))
  rw [List.length_reverse] at h1
  have : 256 ^ l.length ≤ 256 ^ 7 := Nat.pow_le_pow_right (by decide) hl
  have : (256 : Nat) ^ 7 = 2 ^ 56 := by decide
  omega
theorem lN_shl8 {v b : Nat} (hv : v < 2 ^ 48) (hb : b < 256) : lN v <<< ((8 : Int32).toInt64 &&& 63) ||| lN b = lN (256 * v + b) := by
  apply wb_inj
  have e8 : ((8 : Int32).toInt64 &&& 63) = lN 8 := by decide
  rw [e8, Int64.toBitVec_or, Int64.toBitVec_shiftLeft, wb_tb, wb_tb, wb_tb, wb_tb]
  apply BitVec.eq_of_toNat_eq
  rw [BitVec.toNat_or]
  have e : (BitVec.ofNat 64 v <<< (BitVec.ofNat 64 8).smod 64).toNat = v * 256 := by
    have : (BitVec.ofNat 64 8).smod 64 = 8#64 := by decide
    rw [this, BitVec.shiftLeft_eq', BitVec.toNat_shiftLeft, BitVec.toNat_ofNat, Nat.mod_eq_of_lt (show v < 2 ^ 64 by omega)]
    show v <<< 8 % 2 ^ 64 = _
    rw [Nat.shiftLeft_eq, Nat.mod_eq_of_lt (by omega)]
  rw [e, BitVec.toNat_ofNat, BitVec.toNat_ofNat, Nat.mod_eq_of_lt (show b < 2 ^ 64 by omega), Nat.mod_eq_of_lt (show 256 * v + b < 2 ^ 64 by omega)]
  rw [show v * 256 = v <<< 8 by rw [Nat.shiftLeft_eq], ← Nat.shiftLeft_add_eq_or_of_lt (show b < 2 ^ 8 by omega), Nat.shiftLeft_eq]
  omega
