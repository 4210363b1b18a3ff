/-! like cases: rank against repeated choice -/
def cnt (p : Nat → Bool) : Nat → Nat
  | 0 => 0
  | n + 1 => cnt p n + (if p n = true then 1 else 0)
theorem cnt_le {p q : Nat → Bool} : ∀ n, (∀ k, k < n → p k = true → q k = true) → cnt p n ≤ cnt q n := by
  intro n
  induction n with
  | zero => intro _; exact Nat.le_refl _
  | succ n ih =>
    intro hh
    have := ih (fun k hk => hh k (by omega))
    rw [cnt, cnt]
    by_cases e : p n = true
    · rw [if_pos e, if_pos (hh n (by omega) e)]
      omega
    · rw [if_neg e]
      omega
theorem cnt_lt {p q : Nat → Bool} {m : Nat} : ∀ n, (∀ k, k < n → p k = true → q k = true) → m < n → p m = false → q m = true → cnt p n < cnt q n := by
  intro n
  induction n with
  | zero => intro _ h; omega
  | succ n ih =>
    intro hh hm h1 h2
    rw [cnt, cnt]
    by_cases e : m = n
    · subst e
      have := cnt_le (p := p) (q := q) m (fun k hk => hh k (by omega))
      rw [h1, h2]
      simp
      omega
    · have := ih (fun k hk => hh k (by omega)) (by omega) h1 h2
      by_cases e : p n = true
      · rw [if_pos e, if_pos (hh n (by omega) e)]
        omega
      · rw [if_neg e]
        omega
theorem cnt_congr {p q : Nat → Bool} {n : Nat} (h : ∀ k, k < n → p k = q k) : cnt p n = cnt q n := Nat.le_antisymm (cnt_le n (fun k hk e => by rw [← h k hk]; exact e)) (cnt_le n (fun k hk e => by rw [h k hk]; exact e))
theorem cnt_n (p : Nat → Bool) : ∀ n, cnt p n ≤ n := by
  intro n
  induction n with
  | zero => exact Nat.le_refl _
  | succ n ih =>
    rw [cnt]
    split <;> omega
theorem cnt_0 (n : Nat) : cnt (fun _ => false) n = 0 := by
  induction n with
  | zero => rfl
  | succ n ih => rw [cnt, ih]; rfl
/-- one more -/
theorem cnt_add {p q : Nat → Bool} {m : Nat} : ∀ n, m < n → p m = false → q m = true → (∀ k, k < n → k ≠ m → q k = p k) → cnt q n = cnt p n + 1 := by
  intro n
  induction n with
  | zero => intro h; omega
  | succ n ih =>
    intro hm h1 h2 h3
    rw [cnt, cnt]
    by_cases e : m = n
    · subst e
      rw [h1, h2, cnt_congr (fun k hk => h3 k (by omega) (by omega))]
      simp
    · rw [ih (by omega) h1 h2 (fun k hk => h3 k (by omega)), h3 n (by omega) (fun q => e q.symm)]
      omega
theorem zct_cnt (p : Nat → Bool) : ∀ m i, zct p m i (nI (cnt p i)) = nI (cnt p (i + m)) := by
  intro m
  induction m with
  | zero => intro i; rfl
  | succ m ih =>
    intro i
    rw [zct]
    have : (if p i = true then nI (cnt p i) + 1 else nI (cnt p i)) = nI (cnt p (i + 1)) := by
      rw [cnt]
      split
      · rw [nI_1]
      · rfl
    rw [this, ih, show i + 1 + m = i + (m + 1) by omega]
def ky (F D : Nat → Nat) (k : Nat) : Nat := F k * 1600000 + (99999 - D k) * 16 + (15 - k)
def rk (ct : Nat → Bool) (K : Nat → Nat) (n k : Nat) : Nat := cnt (fun j => ct j && decide (K j < K k)) n
section
variable {ct : Nat → Bool} {K : Nat → Nat} {n : Nat}
theorem rk_mono {j k : Nat} (hj : j < n) (cj : ct j = true) (h : K j < K k) : rk ct K n j < rk ct K n k := by
  refine cnt_lt (m := j) n (fun i _ e => ?_) hj (by simp) (by rw [cj]; simpa using h)
  rw [Bool.and_eq_true, decide_eq_true_iff] at e ⊢
  exact ⟨e.1, by omega⟩
theorem rk_inj (inj : ∀ i j, i < n → j < n → K i = K j → i = j) {j k : Nat} (hj : j < n) (hk : k < n) (cj : ct j = true) (ck : ct k = true) (e : rk ct K n j = rk ct K n k) : j = k := by
  rcases Nat.lt_trichotomy (K j) (K k) with h | h | h
  · have := rk_mono (n := n) hj cj h
    omega
  · exact inj j k hj hk h
  · have := rk_mono (n := n) hk ck h
    omega
/-- the least that is left has just the others ahead of it -/
theorem rk_least (inj : ∀ i j, i < n → j < n → K i = K j → i = j) {t m : Nat} (hm : m < n) (cm : ct m = true) (tm : t ≤ rk ct K n m) (hmin : ∀ j, j < n → ct j = true → t ≤ rk ct K n j → K m ≤ K j) (hQ : cnt (fun j => ct j && decide (rk ct K n j < t)) n = t) : rk ct K n m = t := by
  rw [← hQ]
  unfold rk
  refine cnt_congr (fun j hj => ?_)
  cases cj : ct j with
  | false => rfl
  | true =>
    rw [Bool.true_and, Bool.true_and]
    apply decide_eq_decide.mpr
    constructor
    · intro h
      refine Classical.byContradiction (fun q => ?_)
      have := hmin j hj cj (by unfold rk; omega)
      omega
    · intro h
      refine Classical.byContradiction (fun q => ?_)
      rcases Nat.lt_trichotomy (K m) (K j) with h2 | h2 | h2
      · have := rk_mono (n := n) hm cm h2
        unfold rk at this tm
        omega
      · have := inj m j hm hj h2
        subst this
        unfold rk at tm
        omega
      · exact q h2
theorem Q_succ (inj : ∀ i j, i < n → j < n → K i = K j → i = j) {t m : Nat} (hm : m < n) (cm : ct m = true) (em : rk ct K n m = t) (hQ : cnt (fun j => ct j && decide (rk ct K n j < t)) n = t) : cnt (fun j => ct j && decide (rk ct K n j < t + 1)) n = t + 1 := by
  have e := cnt_add (p := fun j => ct j && decide (rk ct K n j < t)) (q := fun j => ct j && decide (rk ct K n j < t + 1)) (m := m) n hm (by rw [cm, em]; simp) (by rw [cm, em]; simp) (fun k hk hne => by
    cases ck : ct k with
    | false => rfl
    | true =>
      rw [Bool.true_and, Bool.true_and]
      apply decide_eq_decide.mpr
      constructor
      · intro h
        refine Classical.byContradiction (fun q => hne ?_)
        exact rk_inj inj hk hm ck cm (by omega)
      · intro h
        omega)
  rw [e, hQ]
end
/-- the choice among what is left: m are left, from i on -/
def sB (ok : Nat → Bool) (K : Nat → Nat) : Nat → Nat → Option Nat → Option Nat
  | 0, _, b => b
  | m + 1, i, b => sB ok K m (i + 1) (if ok i = true then (match b with
      | none => some i
      | some c => if K i < K c then some i else some c) else b)
theorem sB_s (ok : Nat → Bool) (K : Nat → Nat) (m i : Nat) (b : Option Nat) : sB ok K (m + 1) i b = sB ok K m (i + 1) (if ok i = true then (match b with
      | none => some i
      | some c => if K i < K c then some i else some c) else b) := rfl
theorem sB_spec {ok : Nat → Bool} {K : Nat → Nat} {n : Nat} : ∀ (m i : Nat) (b : Option Nat), i + m = n → (∀ c, b = some c → c < i ∧ ok c = true ∧ ∀ j, j < i → ok j = true → K c ≤ K j) → (b = none → ∀ j, j < i → ok j = false) → (∀ c, sB ok K m i b = some c → c < n ∧ ok c = true ∧ ∀ j, j < n → ok j = true → K c ≤ K j) ∧ (sB ok K m i b = none → ∀ j, j < n → ok j = false) := by
  intro m
  induction m with
  | zero =>
    intro i b hi h1 h2
    have e : i = n := by omega
    subst e
    exact ⟨h1, h2⟩
  | succ m ih =>
    intro i b hi h1 h2
    rw [sB_s]
    by_cases o : ok i = true
    · rw [if_pos o]
      cases b with
      | none =>
        refine ih (i + 1) (some i) (by omega) (fun c hc => ?_) (fun hc => by cases hc)
        cases hc
        refine ⟨by omega, o, fun j hj oj => ?_⟩
        by_cases e : j = i
        · rw [e]; exact Nat.le_refl _
        · have := h2 rfl j (by omega)
          rw [this] at oj
          cases oj
      | some c =>
        obtain ⟨a1, a2, a3⟩ := h1 c rfl
        dsimp only
        by_cases k : K i < K c
        · rw [if_pos k]
          refine ih (i + 1) (some i) (by omega) (fun c' hc => ?_) (fun hc => by cases hc)
          cases hc
          refine ⟨by omega, o, fun j hj oj => ?_⟩
          by_cases e : j = i
          · rw [e]; exact Nat.le_refl _
          · have := a3 j (by omega) oj
            omega
        · rw [if_neg k]
          refine ih (i + 1) (some c) (by omega) (fun c' hc => ?_) (fun hc => by cases hc)
          cases hc
          refine ⟨by omega, a2, fun j hj oj => ?_⟩
          by_cases e : j = i
          · rw [e]; omega
          · exact a3 j (by omega) oj
    · rw [if_neg o]
      refine ih (i + 1) b (by omega) (fun c hc => ?_) (fun hc j hj => ?_)
      · obtain ⟨a1, a2, a3⟩ := h1 c hc
        refine ⟨by omega, a2, fun j hj oj => ?_⟩
        by_cases e : j = i
        · rw [e] at oj; exact absurd oj o
        · exact a3 j (by omega) oj
      · by_cases e : j = i
        · rw [e]; exact Bool.eq_false_iff.mpr o
        · exact h2 hc j (by omega)
/-- the cases as numbers: what both see -/
def CN (w : zH) (n : Nat) (Mk F D : Nat → Nat) (H : Nat → Int32) (b : Nat) : Prop := n ≤ 16 ∧ b < 4096 ∧ gi w 35 1244 = nI n ∧ ∀ k, k < n → ga w 60 k = nI (Mk k) ∧ Mk k < 4096 ∧ ga w 61 k = H k ∧ (H k = 0 ∨ H k = 1) ∧ ga w 62 k = nI (D k) ∧ D k ≤ 99999 ∧ ss (fun m => ga w 63 m) (Mk k ^^^ b) = nI (F k) ∧ F k ≤ 108
theorem ky_inj {w : zH} {n b : Nat} {Mk F D : Nat → Nat} {H : Nat → Int32} (C : CN w n Mk F D H b) : ∀ i j, i < n → j < n → ky F D i = ky F D j → i = j := by
  intro i j hi hj e
  obtain ⟨hn, -, -, hc⟩ := C
  have d1 := (hc i hi).2.2.2.2.2.1
  have d2 := (hc j hj).2.2.2.2.2.1
  unfold ky at e
  omega
theorem ky_lt {w : zH} {n b : Nat} {Mk F D : Nat → Nat} {H : Nat → Int32} (C : CN w n Mk F D H b) {i j : Nat} (hi : i < n) (hj : j < n) : ky F D i < ky F D j ↔ (F i < F j ∨ (F i = F j ∧ (D j < D i ∨ (D i = D j ∧ j < i)))) := by
  obtain ⟨hn, -, -, hc⟩ := C
  have d1 := (hc i hi).2.2.2.2.2.1
  have d2 := (hc j hj).2.2.2.2.2.1
  unfold ky
  omega
theorem zsubs : ∀ a, a ≤ 108 → ∀ b, b ≤ 108 → (nI a - nI b < 0 ↔ a < b) ∧ (nI a - nI b = 0 ↔ a = b) := by
  intro a ha b hb
  have e := pk_sub_toInt (a := a) (b := b) (by omega) (by omega)
  constructor
  · rw [Int32.lt_iff_toInt_lt, e, Int32.toInt_zero]
    omega
  · rw [← Int32.toInt_inj, e, Int32.toInt_zero]
    omega
theorem m_isLiker {w : zH} (h : Sh w) {n b : Nat} {Mk F D : Nat → Nat} {H : Nat → Int32} (C : CN w n Mk F D H b) {i j : Nat} (hi : i < n) (hj : j < n) : zrun none (207, 0, [.ref 35, .int (nI i), .int (nI j), .int (nI b), zJ], [], w) = some (some (.int (if ky F D i < ky F D j then 1 else 0)), w) := by
  have kl := ky_lt C hi hj
  obtain ⟨hn, hb, -, hc⟩ := C
  obtain ⟨a1, a2, -, -, a5, a6, a7, a8⟩ := hc i hi
  obtain ⟨b1, b2, -, -, b5, b6, b7, b8⟩ := hc j hj
  have i16 : i < 16 := by omega
  have j16 : j < 16 := by omega
  have f1 := m_farOf h i16 a2 hb a1
  have f2 := m_farOf h j16 b2 hb b1
  rw [a7] at f1
  rw [b7] at f2
  have zs := zsubs (F i) a8 (F j) b8
  have p35 := i_35 h
  by_cases e1 : F i < F j
  · have q := zs.1.mpr e1
    rw [if_pos (kl.mpr (Or.inl e1))]
    simp (disch := first | exact Nat.le_of_ble_eq_true rfl | exact zct_i _ | exact zct_r _ | exact zct_J | exact zct_n | with_reducible assumption | (with_reducible show (zf _ _ _).isSome = true; exact Sh.some (by repeat first | with_reducible assumption | (with_reducible refine Sh.pf ?_ ?_; rotate_left 1; exact fun _ => by decide +kernel) | (with_reducible refine Sh.as ?_ ?_; rotate_left 1; exact fun _ => by decide +kernel) | (with_reducible refine Sh.asr ?_ ?_; rotate_left 1; exact fun _ => by decide +kernel) | with_reducible refine Sh.push ?_ | (with_reducible refine Sh.pfn ?_ ?_; rotate_left 1; omega) | (with_reducible refine Sh.asn ?_ ?_; rotate_left 1; omega)) (by decide) (by decide +kernel) (by decide +kernel)) | exact rfl | exact zb01 _ | decide | fail) only [e207_0, e207_1, e207_2, e207_3, e207_6, e207_7, e207_8, e207_9, e207_12, e207_13, e207_15, e207_17, e207_20, e207_22, e207_25, e207_26, e207_29, e207_30, e207_31, e207_32, e207_35, e207_36, e207_37, e207_40, e207_41, e207_44, e207_45, e207_46, e207_47, e207_50, e207_51, e207_52, e207_55, e207_56, e207_57, e207_60, e207_61, e207_64, e207_65, zgd_true, zcl_ite, zX, Nat.reduceLT, Option.isSome_some, true_and, and_true, zo_some, zoi_some, zon_some, zcl_some, Option.toList_some, Option.toList_none, List.cons_append, List.nil_append, ite_true, ite_false, ↓reduceIte, z10, eq_self, not_true_eq_false, not_false_eq_true, and_self, or_true, true_or, p35, f1, f2, q]
  · have q : ¬ nI (F i) - nI (F j) < 0 := fun r => e1 (zs.1.mp r)
    by_cases e2 : F i = F j
    · have q2 := eq_true (zs.2.mpr e2)
      have nd : ¬ (nI (D j) < nI (D i)) ↔ ¬ (D j < D i) := by rw [nI_ltI (by omega) (by omega)]
      by_cases e3 : D j < D i
      · have q3 : nI (D j) < nI (D i) := nI_lt e3 (by omega)
        rw [if_pos (kl.mpr (Or.inr ⟨e2, Or.inl e3⟩))]
        simp (disch := first | exact Nat.le_of_ble_eq_true rfl | exact zct_i _ | exact zct_r _ | exact zct_J | exact zct_n | with_reducible assumption | (with_reducible show (zf _ _ _).isSome = true; exact Sh.some (by repeat first | with_reducible assumption | (with_reducible refine Sh.pf ?_ ?_; rotate_left 1; exact fun _ => by decide +kernel) | (with_reducible refine Sh.as ?_ ?_; rotate_left 1; exact fun _ => by decide +kernel) | (with_reducible refine Sh.asr ?_ ?_; rotate_left 1; exact fun _ => by decide +kernel) | with_reducible refine Sh.push ?_ | (with_reducible refine Sh.pfn ?_ ?_; rotate_left 1; omega) | (with_reducible refine Sh.asn ?_ ?_; rotate_left 1; omega)) (by decide) (by decide +kernel) (by decide +kernel)) | exact rfl | exact zb01 _ | decide | fail) only [e207_0, e207_1, e207_2, e207_3, e207_6, e207_7, e207_8, e207_9, e207_12, e207_13, e207_15, e207_17, e207_20, e207_22, e207_25, e207_26, e207_29, e207_30, e207_31, e207_32, e207_35, e207_36, e207_37, e207_40, e207_41, e207_44, e207_45, e207_46, e207_47, e207_50, e207_51, e207_52, e207_55, e207_56, e207_57, e207_60, e207_61, e207_64, e207_65, zgd_true, zcl_ite, zX, Nat.reduceLT, Option.isSome_some, true_and, and_true, zo_some, zoi_some, zon_some, zcl_some, Option.toList_some, Option.toList_none, List.cons_append, List.nil_append, ite_true, ite_false, ↓reduceIte, z10, eq_self, not_true_eq_false, not_false_eq_true, and_self, or_true, true_or, i_35 h, f_35_1200 h, f_35_1201 h, f_35_1202 h, f_35_1203 h, f_35_1204 h, f_35_1205 h, f_35_1206 h, f_35_1207 h, f_35_1208 h, f_35_1209 h, f_35_1210 h, f_35_1211 h, f_35_1212 h, f_35_1213 h, f_35_1214 h, f_35_1215 h, f_35_1216 h, f_35_1217 h, f_35_1218 h, f_35_1219 h, f_35_1220 h, f_35_1221 h, f_35_1222 h, f_35_1223 h, f_35_1224 h, f_35_1225 h, f_35_1226 h, f_35_1227 h, f_35_1228 h, f_35_1229 h, f_35_1230 h, f_35_1231 h, f_35_1232 h, f_35_1233 h, f_35_1234 h, f_35_1235 h, f_35_1236 h, f_35_1237 h, f_35_1238 h, f_35_1239 h, f_35_1240 h, f_35_1241 h, f_35_1242 h, f_35_1243 h, f_35_1244 h, f_35_1245 h, f_35_1246 h, f_35_1247 h, f_35_1248 h, f_35_1249 h, f_35_1250 h, A_62 h, N_62 h, f1, f2, q, q2, a5, b5, q3]
      · have q3 := nd.mpr e3
        by_cases e4 : D i = D j
        · have q4 : nI (D i) = nI (D j) := by rw [e4]
          have q4' := eq_true q4
          by_cases e5 : j < i
          · have q5 : ¬ nI i ≤ nI j := nI_ge e5 (by omega)
            rw [if_pos (kl.mpr (Or.inr ⟨e2, Or.inr ⟨e4, e5⟩⟩))]
            simp (disch := first | exact Nat.le_of_ble_eq_true rfl | exact zct_i _ | exact zct_r _ | exact zct_J | exact zct_n | with_reducible assumption | (with_reducible show (zf _ _ _).isSome = true; exact Sh.some (by repeat first | with_reducible assumption | (with_reducible refine Sh.pf ?_ ?_; rotate_left 1; exact fun _ => by decide +kernel) | (with_reducible refine Sh.as ?_ ?_; rotate_left 1; exact fun _ => by decide +kernel) | (with_reducible refine Sh.asr ?_ ?_; rotate_left 1; exact fun _ => by decide +kernel) | with_reducible refine Sh.push ?_ | (with_reducible refine Sh.pfn ?_ ?_; rotate_left 1; omega) | (with_reducible refine Sh.asn ?_ ?_; rotate_left 1; omega)) (by decide) (by decide +kernel) (by decide +kernel)) | exact rfl | exact zb01 _ | decide | fail) only [e207_0, e207_1, e207_2, e207_3, e207_6, e207_7, e207_8, e207_9, e207_12, e207_13, e207_15, e207_17, e207_20, e207_22, e207_25, e207_26, e207_29, e207_30, e207_31, e207_32, e207_35, e207_36, e207_37, e207_40, e207_41, e207_44, e207_45, e207_46, e207_47, e207_50, e207_51, e207_52, e207_55, e207_56, e207_57, e207_60, e207_61, e207_64, e207_65, zgd_true, zcl_ite, zX, Nat.reduceLT, Option.isSome_some, true_and, and_true, zo_some, zoi_some, zon_some, zcl_some, Option.toList_some, Option.toList_none, List.cons_append, List.nil_append, ite_true, ite_false, ↓reduceIte, z10, eq_self, not_true_eq_false, not_false_eq_true, and_self, or_true, true_or, i_35 h, f_35_1200 h, f_35_1201 h, f_35_1202 h, f_35_1203 h, f_35_1204 h, f_35_1205 h, f_35_1206 h, f_35_1207 h, f_35_1208 h, f_35_1209 h, f_35_1210 h, f_35_1211 h, f_35_1212 h, f_35_1213 h, f_35_1214 h, f_35_1215 h, f_35_1216 h, f_35_1217 h, f_35_1218 h, f_35_1219 h, f_35_1220 h, f_35_1221 h, f_35_1222 h, f_35_1223 h, f_35_1224 h, f_35_1225 h, f_35_1226 h, f_35_1227 h, f_35_1228 h, f_35_1229 h, f_35_1230 h, f_35_1231 h, f_35_1232 h, f_35_1233 h, f_35_1234 h, f_35_1235 h, f_35_1236 h, f_35_1237 h, f_35_1238 h, f_35_1239 h, f_35_1240 h, f_35_1241 h, f_35_1242 h, f_35_1243 h, f_35_1244 h, f_35_1245 h, f_35_1246 h, f_35_1247 h, f_35_1248 h, f_35_1249 h, f_35_1250 h, A_62 h, N_62 h, f1, f2, q, q2, a5, b5, q3, q4', q5]
          · have q5 : nI i ≤ nI j := nI_le (by omega) (by omega)
            rw [if_neg (fun r => by have := kl.mp r; omega)]
            simp (disch := first | exact Nat.le_of_ble_eq_true rfl | exact zct_i _ | exact zct_r _ | exact zct_J | exact zct_n | with_reducible assumption | (with_reducible show (zf _ _ _).isSome = true; exact Sh.some (by repeat first | with_reducible assumption | (with_reducible refine Sh.pf ?_ ?_; rotate_left 1; exact fun _ => by decide +kernel) | (with_reducible refine Sh.as ?_ ?_; rotate_left 1; exact fun _ => by decide +kernel) | (with_reducible refine Sh.asr ?_ ?_; rotate_left 1; exact fun _ => by decide +kernel) | with_reducible refine Sh.push ?_ | (with_reducible refine Sh.pfn ?_ ?_; rotate_left 1; omega) | (with_reducible refine Sh.asn ?_ ?_; rotate_left 1; omega)) (by decide) (by decide +kernel) (by decide +kernel)) | exact rfl | exact zb01 _ | decide | fail) only [e207_0, e207_1, e207_2, e207_3, e207_6, e207_7, e207_8, e207_9, e207_12, e207_13, e207_15, e207_17, e207_20, e207_22, e207_25, e207_26, e207_29, e207_30, e207_31, e207_32, e207_35, e207_36, e207_37, e207_40, e207_41, e207_44, e207_45, e207_46, e207_47, e207_50, e207_51, e207_52, e207_55, e207_56, e207_57, e207_60, e207_61, e207_64, e207_65, zgd_true, zcl_ite, zX, Nat.reduceLT, Option.isSome_some, true_and, and_true, zo_some, zoi_some, zon_some, zcl_some, Option.toList_some, Option.toList_none, List.cons_append, List.nil_append, ite_true, ite_false, ↓reduceIte, z10, eq_self, not_true_eq_false, not_false_eq_true, and_self, or_true, true_or, i_35 h, f_35_1200 h, f_35_1201 h, f_35_1202 h, f_35_1203 h, f_35_1204 h, f_35_1205 h, f_35_1206 h, f_35_1207 h, f_35_1208 h, f_35_1209 h, f_35_1210 h, f_35_1211 h, f_35_1212 h, f_35_1213 h, f_35_1214 h, f_35_1215 h, f_35_1216 h, f_35_1217 h, f_35_1218 h, f_35_1219 h, f_35_1220 h, f_35_1221 h, f_35_1222 h, f_35_1223 h, f_35_1224 h, f_35_1225 h, f_35_1226 h, f_35_1227 h, f_35_1228 h, f_35_1229 h, f_35_1230 h, f_35_1231 h, f_35_1232 h, f_35_1233 h, f_35_1234 h, f_35_1235 h, f_35_1236 h, f_35_1237 h, f_35_1238 h, f_35_1239 h, f_35_1240 h, f_35_1241 h, f_35_1242 h, f_35_1243 h, f_35_1244 h, f_35_1245 h, f_35_1246 h, f_35_1247 h, f_35_1248 h, f_35_1249 h, f_35_1250 h, A_62 h, N_62 h, f1, f2, q, q2, a5, b5, q3, q4', q5]
        · have q4 : ¬ nI (D i) = nI (D j) := fun r => e4 ((nI_eq (by omega) (by omega)).mp r)
          rw [if_neg (fun r => by have := kl.mp r; omega)]
          simp (disch := first | exact Nat.le_of_ble_eq_true rfl | exact zct_i _ | exact zct_r _ | exact zct_J | exact zct_n | with_reducible assumption | (with_reducible show (zf _ _ _).isSome = true; exact Sh.some (by repeat first | with_reducible assumption | (with_reducible refine Sh.pf ?_ ?_; rotate_left 1; exact fun _ => by decide +kernel) | (with_reducible refine Sh.as ?_ ?_; rotate_left 1; exact fun _ => by decide +kernel) | (with_reducible refine Sh.asr ?_ ?_; rotate_left 1; exact fun _ => by decide +kernel) | with_reducible refine Sh.push ?_ | (with_reducible refine Sh.pfn ?_ ?_; rotate_left 1; omega) | (with_reducible refine Sh.asn ?_ ?_; rotate_left 1; omega)) (by decide) (by decide +kernel) (by decide +kernel)) | exact rfl | exact zb01 _ | decide | fail) only [e207_0, e207_1, e207_2, e207_3, e207_6, e207_7, e207_8, e207_9, e207_12, e207_13, e207_15, e207_17, e207_20, e207_22, e207_25, e207_26, e207_29, e207_30, e207_31, e207_32, e207_35, e207_36, e207_37, e207_40, e207_41, e207_44, e207_45, e207_46, e207_47, e207_50, e207_51, e207_52, e207_55, e207_56, e207_57, e207_60, e207_61, e207_64, e207_65, zgd_true, zcl_ite, zX, Nat.reduceLT, Option.isSome_some, true_and, and_true, zo_some, zoi_some, zon_some, zcl_some, Option.toList_some, Option.toList_none, List.cons_append, List.nil_append, ite_true, ite_false, ↓reduceIte, z10, eq_self, not_true_eq_false, not_false_eq_true, and_self, or_true, true_or, i_35 h, f_35_1200 h, f_35_1201 h, f_35_1202 h, f_35_1203 h, f_35_1204 h, f_35_1205 h, f_35_1206 h, f_35_1207 h, f_35_1208 h, f_35_1209 h, f_35_1210 h, f_35_1211 h, f_35_1212 h, f_35_1213 h, f_35_1214 h, f_35_1215 h, f_35_1216 h, f_35_1217 h, f_35_1218 h, f_35_1219 h, f_35_1220 h, f_35_1221 h, f_35_1222 h, f_35_1223 h, f_35_1224 h, f_35_1225 h, f_35_1226 h, f_35_1227 h, f_35_1228 h, f_35_1229 h, f_35_1230 h, f_35_1231 h, f_35_1232 h, f_35_1233 h, f_35_1234 h, f_35_1235 h, f_35_1236 h, f_35_1237 h, f_35_1238 h, f_35_1239 h, f_35_1240 h, f_35_1241 h, f_35_1242 h, f_35_1243 h, f_35_1244 h, f_35_1245 h, f_35_1246 h, f_35_1247 h, f_35_1248 h, f_35_1249 h, f_35_1250 h, A_62 h, N_62 h, f1, f2, q, q2, a5, b5, q3, q4]
    · have q2 : ¬ nI (F i) - nI (F j) = 0 := fun r => e2 (zs.2.mp r)
      rw [if_neg (fun r => by have := kl.mp r; omega)]
      simp (disch := first | exact Nat.le_of_ble_eq_true rfl | exact zct_i _ | exact zct_r _ | exact zct_J | exact zct_n | with_reducible assumption | (with_reducible show (zf _ _ _).isSome = true; exact Sh.some (by repeat first | with_reducible assumption | (with_reducible refine Sh.pf ?_ ?_; rotate_left 1; exact fun _ => by decide +kernel) | (with_reducible refine Sh.as ?_ ?_; rotate_left 1; exact fun _ => by decide +kernel) | (with_reducible refine Sh.asr ?_ ?_; rotate_left 1; exact fun _ => by decide +kernel) | with_reducible refine Sh.push ?_ | (with_reducible refine Sh.pfn ?_ ?_; rotate_left 1; omega) | (with_reducible refine Sh.asn ?_ ?_; rotate_left 1; omega)) (by decide) (by decide +kernel) (by decide +kernel)) | exact rfl | exact zb01 _ | decide | fail) only [e207_0, e207_1, e207_2, e207_3, e207_6, e207_7, e207_8, e207_9, e207_12, e207_13, e207_15, e207_17, e207_20, e207_22, e207_25, e207_26, e207_29, e207_30, e207_31, e207_32, e207_35, e207_36, e207_37, e207_40, e207_41, e207_44, e207_45, e207_46, e207_47, e207_50, e207_51, e207_52, e207_55, e207_56, e207_57, e207_60, e207_61, e207_64, e207_65, zgd_true, zcl_ite, zX, Nat.reduceLT, Option.isSome_some, true_and, and_true, zo_some, zoi_some, zon_some, zcl_some, Option.toList_some, Option.toList_none, List.cons_append, List.nil_append, ite_true, ite_false, ↓reduceIte, z10, eq_self, not_true_eq_false, not_false_eq_true, and_self, or_true, true_or, p35, f1, f2, q, q2]
theorem m_choice_loop {w : zH} (h : Sh w) {n b : Nat} {Mk F D : Nat → Nat} {H : Nat → Int32} (C : CN w n Mk F D H b) {M : Nat} (hM : M < 65536) (d i0 t : Int32) : ∀ (m c : Nat) (x : Option Nat) (v8 : Value), c + m = n → (∀ e, x = some e → e < n) → zrun none (208, 23, [.ref 35, .int (nI b), .int d, .int i0, .int (nI M), .int (zen x), .int t, .int (nI c), v8], [], w) = zrun none (208, 99, [.ref 35, .int (nI b), .int d, .int i0, .int (nI M), .int (zen (sB (fun k => decide (ga w 62 k ≤ d) && !M.testBit k) (ky F D) m c x)), .int t, .int (nI n), if m = 0 then v8 else .int (if (decide (ga w 62 (n - 1) ≤ d) && !M.testBit (n - 1)) = true then 1 else 0)], [], w) := by
  obtain ⟨hn, hb, cn, hc⟩ := C
  have C : CN w n Mk F D H b := ⟨hn, hb, cn, hc⟩
  have p35 := i_35 h
  intro m
  induction m with
  | zero =>
    intro c x v8 hcm hx
    have e : c = n := by omega
    subst e
    have q1 : nI c ≤ nI c := Int32.le_refl _
    rw [e208_23, if_pos rfl]
    simp (disch := first | exact Nat.le_of_ble_eq_true rfl | exact zct_i _ | exact zct_r _ | exact zct_J | exact zct_n | with_reducible assumption | (with_reducible show (zf _ _ _).isSome = true; exact Sh.some (by repeat first | with_reducible assumption | (with_reducible refine Sh.pf ?_ ?_; rotate_left 1; exact fun _ => by decide +kernel) | (with_reducible refine Sh.as ?_ ?_; rotate_left 1; exact fun _ => by decide +kernel) | (with_reducible refine Sh.asr ?_ ?_; rotate_left 1; exact fun _ => by decide +kernel) | with_reducible refine Sh.push ?_ | (with_reducible refine Sh.pfn ?_ ?_; rotate_left 1; omega) | (with_reducible refine Sh.asn ?_ ?_; rotate_left 1; omega)) (by decide) (by decide +kernel) (by decide +kernel)) | exact rfl | exact zb01 _ | decide | fail) only [e208_25, e208_26, e208_29, e208_32, e208_33, e208_36, e208_38, e208_39, e208_40, e208_43, e208_45, e208_47, e208_48, e208_49, e208_50, e208_53, e208_54, e208_57, e208_58, e208_60, e208_62, e208_65, e208_67, e208_69, e208_72, e208_73, e208_75, e208_77, e208_78, e208_81, e208_84, e208_86, e208_89, e208_91, e208_93, e208_96, zgd_true, zcl_ite, zX, Nat.reduceLT, Option.isSome_some, true_and, and_true, zo_some, zoi_some, zon_some, zcl_some, Option.toList_some, Option.toList_none, List.cons_append, List.nil_append, ite_true, ite_false, ↓reduceIte, z10, eq_self, not_true_eq_false, not_false_eq_true, and_self, or_true, true_or, i_35 h, f_35_1200 h, f_35_1201 h, f_35_1202 h, f_35_1203 h, f_35_1204 h, f_35_1205 h, f_35_1206 h, f_35_1207 h, f_35_1208 h, f_35_1209 h, f_35_1210 h, f_35_1211 h, f_35_1212 h, f_35_1213 h, f_35_1214 h, f_35_1215 h, f_35_1216 h, f_35_1217 h, f_35_1218 h, f_35_1219 h, f_35_1220 h, f_35_1221 h, f_35_1222 h, f_35_1223 h, f_35_1224 h, f_35_1225 h, f_35_1226 h, f_35_1227 h, f_35_1228 h, f_35_1229 h, f_35_1230 h, f_35_1231 h, f_35_1232 h, f_35_1233 h, f_35_1234 h, f_35_1235 h, f_35_1236 h, f_35_1237 h, f_35_1238 h, f_35_1239 h, f_35_1240 h, f_35_1241 h, f_35_1242 h, f_35_1243 h, f_35_1244 h, f_35_1245 h, f_35_1246 h, f_35_1247 h, f_35_1248 h, f_35_1249 h, f_35_1250 h, cn, q1, sB]
  | succ m ih =>
    intro c x v8 hcm hx
    have hcn : c < n := by omega
    have c16 : c < 16 := by omega
    have q1 : ¬ nI n ≤ nI c := nI_ge (by omega) (by omega)
    have bt := zbtN (T := M) (k := c) (by omega) (by omega)
    have last : ∀ y : Int32, y = (if (decide (ga w 62 c ≤ d) && !M.testBit c) = true then 1 else 0) → (if m = 0 then Value.int y else .int (if (decide (ga w 62 (n - 1) ≤ d) && !M.testBit (n - 1)) = true then 1 else 0)) = (if m + 1 = 0 then v8 else .int (if (decide (ga w 62 (n - 1) ≤ d) && !M.testBit (n - 1)) = true then 1 else 0)) := by
      intro y hy
      rw [if_neg (show ¬ m + 1 = 0 by omega)]
      by_cases e : m = 0
      · rw [if_pos e, hy, show c = n - 1 by omega]
      · rw [if_neg e]
    have ih1 := fun x y (hx : ∀ e, x = some e → e < n) (hy : y = (if (decide (ga w 62 c ≤ d) && !M.testBit c) = true then (1 : Int32) else 0)) => (ih (c + 1) x (.int y) (by omega) hx).trans (by rw [last y hy])
    rw [e208_23, sB_s]
    by_cases e1 : ga w 62 c ≤ d
    rotate_left
    · have e1' : d < ga w 62 c := Int32.not_le.mp e1
      have ok : (decide (ga w 62 c ≤ d) && !M.testBit c) = false := by rw [decide_eq_false e1]; rfl
      have i1 := ih1 x 0 hx (by rw [ok]; rfl)
      simp only [ok, Bool.false_eq_true, if_false]
      simp (disch := first | exact Nat.le_of_ble_eq_true rfl | exact zct_i _ | exact zct_r _ | exact zct_J | exact zct_n | with_reducible assumption | (with_reducible show (zf _ _ _).isSome = true; exact Sh.some (by repeat first | with_reducible assumption | (with_reducible refine Sh.pf ?_ ?_; rotate_left 1; exact fun _ => by decide +kernel) | (with_reducible refine Sh.as ?_ ?_; rotate_left 1; exact fun _ => by decide +kernel) | (with_reducible refine Sh.asr ?_ ?_; rotate_left 1; exact fun _ => by decide +kernel) | with_reducible refine Sh.push ?_ | (with_reducible refine Sh.pfn ?_ ?_; rotate_left 1; omega) | (with_reducible refine Sh.asn ?_ ?_; rotate_left 1; omega)) (by decide) (by decide +kernel) (by decide +kernel)) | exact rfl | exact zb01 _ | decide | fail) only [e208_25, e208_26, e208_29, e208_32, e208_33, e208_36, e208_38, e208_39, e208_40, e208_43, e208_45, e208_47, e208_48, e208_49, e208_50, e208_53, e208_54, e208_57, e208_58, e208_60, e208_62, e208_65, e208_67, e208_69, e208_72, e208_73, e208_75, e208_77, e208_78, e208_81, e208_84, e208_86, e208_89, e208_91, e208_93, e208_96, zgd_true, zcl_ite, zX, Nat.reduceLT, Option.isSome_some, true_and, and_true, zo_some, zoi_some, zon_some, zcl_some, Option.toList_some, Option.toList_none, List.cons_append, List.nil_append, ite_true, ite_false, ↓reduceIte, z10, eq_self, not_true_eq_false, not_false_eq_true, and_self, or_true, true_or, i_35 h, f_35_1200 h, f_35_1201 h, f_35_1202 h, f_35_1203 h, f_35_1204 h, f_35_1205 h, f_35_1206 h, f_35_1207 h, f_35_1208 h, f_35_1209 h, f_35_1210 h, f_35_1211 h, f_35_1212 h, f_35_1213 h, f_35_1214 h, f_35_1215 h, f_35_1216 h, f_35_1217 h, f_35_1218 h, f_35_1219 h, f_35_1220 h, f_35_1221 h, f_35_1222 h, f_35_1223 h, f_35_1224 h, f_35_1225 h, f_35_1226 h, f_35_1227 h, f_35_1228 h, f_35_1229 h, f_35_1230 h, f_35_1231 h, f_35_1232 h, f_35_1233 h, f_35_1234 h, f_35_1235 h, f_35_1236 h, f_35_1237 h, f_35_1238 h, f_35_1239 h, f_35_1240 h, f_35_1241 h, f_35_1242 h, f_35_1243 h, f_35_1244 h, f_35_1245 h, f_35_1246 h, f_35_1247 h, f_35_1248 h, f_35_1249 h, f_35_1250 h, A_62 h, N_62 h, cn, q1, e1', nI_1, i1]
    have e1' : ¬ d < ga w 62 c := Int32.not_lt.mpr e1
    cases hb1 : M.testBit c with
    | true =>
      rw [hb1] at bt
      simp only [if_true] at bt
      have ok : (decide (ga w 62 c ≤ d) && !M.testBit c) = false := by rw [hb1, Bool.not_true, Bool.and_false]
      have i1 := ih1 x 0 hx (by rw [ok]; rfl)
      simp only [hb1, Bool.not_true, Bool.and_false, Bool.false_eq_true, if_false]
      simp (disch := first | exact Nat.le_of_ble_eq_true rfl | exact zct_i _ | exact zct_r _ | exact zct_J | exact zct_n | with_reducible assumption | (with_reducible show (zf _ _ _).isSome = true; exact Sh.some (by repeat first | with_reducible assumption | (with_reducible refine Sh.pf ?_ ?_; rotate_left 1; exact fun _ => by decide +kernel) | (with_reducible refine Sh.as ?_ ?_; rotate_left 1; exact fun _ => by decide +kernel) | (with_reducible refine Sh.asr ?_ ?_; rotate_left 1; exact fun _ => by decide +kernel) | with_reducible refine Sh.push ?_ | (with_reducible refine Sh.pfn ?_ ?_; rotate_left 1; omega) | (with_reducible refine Sh.asn ?_ ?_; rotate_left 1; omega)) (by decide) (by decide +kernel) (by decide +kernel)) | exact rfl | exact zb01 _ | decide | fail) only [e208_25, e208_26, e208_29, e208_32, e208_33, e208_36, e208_38, e208_39, e208_40, e208_43, e208_45, e208_47, e208_48, e208_49, e208_50, e208_53, e208_54, e208_57, e208_58, e208_60, e208_62, e208_65, e208_67, e208_69, e208_72, e208_73, e208_75, e208_77, e208_78, e208_81, e208_84, e208_86, e208_89, e208_91, e208_93, e208_96, zgd_true, zcl_ite, zX, Nat.reduceLT, Option.isSome_some, true_and, and_true, zo_some, zoi_some, zon_some, zcl_some, Option.toList_some, Option.toList_none, List.cons_append, List.nil_append, ite_true, ite_false, ↓reduceIte, z10, eq_self, not_true_eq_false, not_false_eq_true, and_self, or_true, true_or, i_35 h, f_35_1200 h, f_35_1201 h, f_35_1202 h, f_35_1203 h, f_35_1204 h, f_35_1205 h, f_35_1206 h, f_35_1207 h, f_35_1208 h, f_35_1209 h, f_35_1210 h, f_35_1211 h, f_35_1212 h, f_35_1213 h, f_35_1214 h, f_35_1215 h, f_35_1216 h, f_35_1217 h, f_35_1218 h, f_35_1219 h, f_35_1220 h, f_35_1221 h, f_35_1222 h, f_35_1223 h, f_35_1224 h, f_35_1225 h, f_35_1226 h, f_35_1227 h, f_35_1228 h, f_35_1229 h, f_35_1230 h, f_35_1231 h, f_35_1232 h, f_35_1233 h, f_35_1234 h, f_35_1235 h, f_35_1236 h, f_35_1237 h, f_35_1238 h, f_35_1239 h, f_35_1240 h, f_35_1241 h, f_35_1242 h, f_35_1243 h, f_35_1244 h, f_35_1245 h, f_35_1246 h, f_35_1247 h, f_35_1248 h, f_35_1249 h, f_35_1250 h, A_62 h, N_62 h, cn, q1, e1', bt, nI_1, i1]
    | false =>
      rw [hb1] at bt
      simp only [Bool.false_eq_true, if_false] at bt
      have ok : (decide (ga w 62 c ≤ d) && !M.testBit c) = true := by rw [hb1, decide_eq_true e1]; rfl
      have i0 := fun x hx => ih1 x 1 hx (by rw [ok]; rfl)
      simp only [hb1, decide_eq_true e1, Bool.not_false, Bool.and_self, if_true]
      cases x with
      | none =>
        have i1 := i0 (some c) (fun e he => by cases he; exact hcn)
        simp only [zen_n, zen_s] at i1 ⊢
        simp (disch := first | exact Nat.le_of_ble_eq_true rfl | exact zct_i _ | exact zct_r _ | exact zct_J | exact zct_n | with_reducible assumption | (with_reducible show (zf _ _ _).isSome = true; exact Sh.some (by repeat first | with_reducible assumption | (with_reducible refine Sh.pf ?_ ?_; rotate_left 1; exact fun _ => by decide +kernel) | (with_reducible refine Sh.as ?_ ?_; rotate_left 1; exact fun _ => by decide +kernel) | (with_reducible refine Sh.asr ?_ ?_; rotate_left 1; exact fun _ => by decide +kernel) | with_reducible refine Sh.push ?_ | (with_reducible refine Sh.pfn ?_ ?_; rotate_left 1; omega) | (with_reducible refine Sh.asn ?_ ?_; rotate_left 1; omega)) (by decide) (by decide +kernel) (by decide +kernel)) | exact rfl | exact zb01 _ | decide | fail) only [e208_25, e208_26, e208_29, e208_32, e208_33, e208_36, e208_38, e208_39, e208_40, e208_43, e208_45, e208_47, e208_48, e208_49, e208_50, e208_53, e208_54, e208_57, e208_58, e208_60, e208_62, e208_65, e208_67, e208_69, e208_72, e208_73, e208_75, e208_77, e208_78, e208_81, e208_84, e208_86, e208_89, e208_91, e208_93, e208_96, zgd_true, zcl_ite, zX, Nat.reduceLT, Option.isSome_some, true_and, and_true, zo_some, zoi_some, zon_some, zcl_some, Option.toList_some, Option.toList_none, List.cons_append, List.nil_append, ite_true, ite_false, ↓reduceIte, z10, eq_self, not_true_eq_false, not_false_eq_true, and_self, or_true, true_or, i_35 h, f_35_1200 h, f_35_1201 h, f_35_1202 h, f_35_1203 h, f_35_1204 h, f_35_1205 h, f_35_1206 h, f_35_1207 h, f_35_1208 h, f_35_1209 h, f_35_1210 h, f_35_1211 h, f_35_1212 h, f_35_1213 h, f_35_1214 h, f_35_1215 h, f_35_1216 h, f_35_1217 h, f_35_1218 h, f_35_1219 h, f_35_1220 h, f_35_1221 h, f_35_1222 h, f_35_1223 h, f_35_1224 h, f_35_1225 h, f_35_1226 h, f_35_1227 h, f_35_1228 h, f_35_1229 h, f_35_1230 h, f_35_1231 h, f_35_1232 h, f_35_1233 h, f_35_1234 h, f_35_1235 h, f_35_1236 h, f_35_1237 h, f_35_1238 h, f_35_1239 h, f_35_1240 h, f_35_1241 h, f_35_1242 h, f_35_1243 h, f_35_1244 h, f_35_1245 h, f_35_1246 h, f_35_1247 h, f_35_1248 h, f_35_1249 h, f_35_1250 h, A_62 h, N_62 h, cn, q1, e1', bt, nI_1, i1, zen_s]
      | some e =>
        have he := hx e rfl
        have e31 : e < 2 ^ 31 := by omega
        have ml := m_isLiker h C hcn he
        by_cases k : ky F D c < ky F D e
        · have i1 := i0 (some c) (fun e he => by cases he; exact hcn)
          simp only [zen_n, zen_s, if_pos k] at i1 ml ⊢
          simp (disch := first | exact Nat.le_of_ble_eq_true rfl | exact zct_i _ | exact zct_r _ | exact zct_J | exact zct_n | with_reducible assumption | (with_reducible show (zf _ _ _).isSome = true; exact Sh.some (by repeat first | with_reducible assumption | (with_reducible refine Sh.pf ?_ ?_; rotate_left 1; exact fun _ => by decide +kernel) | (with_reducible refine Sh.as ?_ ?_; rotate_left 1; exact fun _ => by decide +kernel) | (with_reducible refine Sh.asr ?_ ?_; rotate_left 1; exact fun _ => by decide +kernel) | with_reducible refine Sh.push ?_ | (with_reducible refine Sh.pfn ?_ ?_; rotate_left 1; omega) | (with_reducible refine Sh.asn ?_ ?_; rotate_left 1; omega)) (by decide) (by decide +kernel) (by decide +kernel)) | exact rfl | exact zb01 _ | decide | fail) only [e208_25, e208_26, e208_29, e208_32, e208_33, e208_36, e208_38, e208_39, e208_40, e208_43, e208_45, e208_47, e208_48, e208_49, e208_50, e208_53, e208_54, e208_57, e208_58, e208_60, e208_62, e208_65, e208_67, e208_69, e208_72, e208_73, e208_75, e208_77, e208_78, e208_81, e208_84, e208_86, e208_89, e208_91, e208_93, e208_96, zgd_true, zcl_ite, zX, Nat.reduceLT, Option.isSome_some, true_and, and_true, zo_some, zoi_some, zon_some, zcl_some, Option.toList_some, Option.toList_none, List.cons_append, List.nil_append, ite_true, ite_false, ↓reduceIte, z10, eq_self, not_true_eq_false, not_false_eq_true, and_self, or_true, true_or, i_35 h, f_35_1200 h, f_35_1201 h, f_35_1202 h, f_35_1203 h, f_35_1204 h, f_35_1205 h, f_35_1206 h, f_35_1207 h, f_35_1208 h, f_35_1209 h, f_35_1210 h, f_35_1211 h, f_35_1212 h, f_35_1213 h, f_35_1214 h, f_35_1215 h, f_35_1216 h, f_35_1217 h, f_35_1218 h, f_35_1219 h, f_35_1220 h, f_35_1221 h, f_35_1222 h, f_35_1223 h, f_35_1224 h, f_35_1225 h, f_35_1226 h, f_35_1227 h, f_35_1228 h, f_35_1229 h, f_35_1230 h, f_35_1231 h, f_35_1232 h, f_35_1233 h, f_35_1234 h, f_35_1235 h, f_35_1236 h, f_35_1237 h, f_35_1238 h, f_35_1239 h, f_35_1240 h, f_35_1241 h, f_35_1242 h, f_35_1243 h, f_35_1244 h, f_35_1245 h, f_35_1246 h, f_35_1247 h, f_35_1248 h, f_35_1249 h, f_35_1250 h, A_62 h, N_62 h, cn, q1, e1', bt, zNone, ml, nI_1, i1]
        · have i1 := i0 (some e) hx
          simp only [zen_n, zen_s, if_neg k] at i1 ml ⊢
          simp (disch := first | exact Nat.le_of_ble_eq_true rfl | exact zct_i _ | exact zct_r _ | exact zct_J | exact zct_n | with_reducible assumption | (with_reducible show (zf _ _ _).isSome = true; exact Sh.some (by repeat first | with_reducible assumption | (with_reducible refine Sh.pf ?_ ?_; rotate_left 1; exact fun _ => by decide +kernel) | (with_reducible refine Sh.as ?_ ?_; rotate_left 1; exact fun _ => by decide +kernel) | (with_reducible refine Sh.asr ?_ ?_; rotate_left 1; exact fun _ => by decide +kernel) | with_reducible refine Sh.push ?_ | (with_reducible refine Sh.pfn ?_ ?_; rotate_left 1; omega) | (with_reducible refine Sh.asn ?_ ?_; rotate_left 1; omega)) (by decide) (by decide +kernel) (by decide +kernel)) | exact rfl | exact zb01 _ | decide | fail) only [e208_25, e208_26, e208_29, e208_32, e208_33, e208_36, e208_38, e208_39, e208_40, e208_43, e208_45, e208_47, e208_48, e208_49, e208_50, e208_53, e208_54, e208_57, e208_58, e208_60, e208_62, e208_65, e208_67, e208_69, e208_72, e208_73, e208_75, e208_77, e208_78, e208_81, e208_84, e208_86, e208_89, e208_91, e208_93, e208_96, zgd_true, zcl_ite, zX, Nat.reduceLT, Option.isSome_some, true_and, and_true, zo_some, zoi_some, zon_some, zcl_some, Option.toList_some, Option.toList_none, List.cons_append, List.nil_append, ite_true, ite_false, ↓reduceIte, z10, eq_self, not_true_eq_false, not_false_eq_true, and_self, or_true, true_or, i_35 h, f_35_1200 h, f_35_1201 h, f_35_1202 h, f_35_1203 h, f_35_1204 h, f_35_1205 h, f_35_1206 h, f_35_1207 h, f_35_1208 h, f_35_1209 h, f_35_1210 h, f_35_1211 h, f_35_1212 h, f_35_1213 h, f_35_1214 h, f_35_1215 h, f_35_1216 h, f_35_1217 h, f_35_1218 h, f_35_1219 h, f_35_1220 h, f_35_1221 h, f_35_1222 h, f_35_1223 h, f_35_1224 h, f_35_1225 h, f_35_1226 h, f_35_1227 h, f_35_1228 h, f_35_1229 h, f_35_1230 h, f_35_1231 h, f_35_1232 h, f_35_1233 h, f_35_1234 h, f_35_1235 h, f_35_1236 h, f_35_1237 h, f_35_1238 h, f_35_1239 h, f_35_1240 h, f_35_1241 h, f_35_1242 h, f_35_1243 h, f_35_1244 h, f_35_1245 h, f_35_1246 h, f_35_1247 h, f_35_1248 h, f_35_1249 h, f_35_1250 h, A_62 h, N_62 h, cn, q1, e1', bt, zNone, ml, nI_1, i1]
theorem shl16 : ∀ c, c < 16 → (1 : Int32) <<< (nI c &&& 31) = nI (2 ^ c) := by decide +kernel
/-- the i-th like case -/
def lkR (ct : Nat → Bool) (K : Nat → Nat) (n : Nat) (i : Int32) : Option Nat := lnB (fun k => ct k && decide (nI (rk ct K n k) = i)) n 0
theorem lkR_eq {ct : Nat → Bool} {K : Nat → Nat} {n m I : Nat} (inj : ∀ i j, i < n → j < n → K i = K j → i = j) (hn : n ≤ 16) (hm : m < n) (cm : ct m = true) (e : rk ct K n m = I) : lkR ct K n (nI I) = some m := by
  unfold lkR
  cases h : lnB (fun k => ct k && decide (nI (rk ct K n k) = nI I)) n 0 with
  | none =>
    have := lnB_none n 0 h m (by omega) (by omega)
    rw [cm, e] at this
    simp at this
  | some k =>
    obtain ⟨h1, h2, h3, h4⟩ := lnB_some n 0 k h
    rw [Bool.and_eq_true, decide_eq_true_iff] at h1
    have hr : rk ct K n k ≤ n := cnt_n _ n
    have hr2 : rk ct K n m ≤ n := cnt_n _ n
    rw [nI_eq (by omega) (by omega)] at h1
    congr 1
    exact rk_inj inj (by omega) hm h1.1 cm (by omega)
theorem lkR_no {ct : Nat → Bool} {K : Nat → Nat} {n : Nat} {i : Int32} (h : ∀ k, k < n → ct k = true → ¬ nI (rk ct K n k) = i) : lkR ct K n i = none := by
  unfold lkR
  cases e : lnB (fun k => ct k && decide (nI (rk ct K n k) = i)) n 0 with
  | none => rfl
  | some k =>
    obtain ⟨h1, h2, h3, h4⟩ := lnB_some n 0 k e
    rw [Bool.and_eq_true, decide_eq_true_iff] at h1
    exact absurd h1.2 (h k (by omega) h1.1)
theorem m_likeCase_loop {w : zH} (h : Sh w) {n b : Nat} {Mk F D : Nat → Nat} {H : Nat → Int32} (C : CN w n Mk F D H b) (d : Int32) {I : Nat} (hI : I < 2 ^ 31) : ∀ (f t M : Nat) (x : Int32) (v7 v8 : Value), t + f = n + 1 → t ≤ I → M < 65536 → v7.category = 1 → (∀ k, k < n → M.testBit k = (decide (ga w 62 k ≤ d) && decide (rk (fun k => decide (ga w 62 k ≤ d)) (ky F D) n k < t))) → cnt (fun k => decide (ga w 62 k ≤ d) && decide (rk (fun k => decide (ga w 62 k ≤ d)) (ky F D) n k < t)) n = t → zrun none (208, 10, [.ref 35, .int (nI b), .int d, .int (nI I), .int (nI M), .int x, .int (nI t), v7, v8], [], w) = some (some (.int (zen (lkR (fun k => decide (ga w 62 k ≤ d)) (ky F D) n (nI I)))), w) := by
  have inj := ky_inj C
  have hn := C.1
  intro f
  induction f with
  | zero =>
    intro t M x v7 v8 ht _ _ _ _ hQ
    have := cnt_n (fun k => decide (ga w 62 k ≤ d) && decide (rk (fun k => decide (ga w 62 k ≤ d)) (ky F D) n k < t)) n
    omega
  | succ f ih =>
    intro t M x v7 v8 ht htI hM h7 hB hQ
    have q1 : ¬ nI I < nI t := nI_nlt (by omega) (by omega)
    have ch := m_choice_loop h C hM d (nI I) (nI t) n 0 none v8 (by omega) (fun e he => by cases he)
    obtain ⟨s1, s2⟩ := sB_spec (ok := fun k => decide (ga w 62 k ≤ d) && !M.testBit k) (K := ky F D) (n := n) n 0 none (by omega) (fun c hc => by cases hc) (fun _ j hj => by omega)
    have okI : ∀ k, k < n → ((decide (ga w 62 k ≤ d) && !M.testBit k) = true ↔ (ga w 62 k ≤ d ∧ t ≤ rk (fun k => decide (ga w 62 k ≤ d)) (ky F D) n k)) := by
      intro k hk
      rw [hB k hk]
      by_cases e : ga w 62 k ≤ d
      · rw [decide_eq_true e, Bool.true_and, Bool.true_and, Bool.not_eq_true', decide_eq_false_iff_not, Nat.not_lt]
        exact ⟨fun q => ⟨e, q⟩, fun q => q.2⟩
      · rw [decide_eq_false e, Bool.false_and]
        exact ⟨fun q => (by cases q), fun q => absurd q.1 e⟩
    rw [zen_n, nI_0] at ch
    rw [e208_10]
    cases e : sB (fun k => decide (ga w 62 k ≤ d) && !M.testBit k) (ky F D) n 0 none with
    | none =>
      rw [e, zen_n] at ch
      have no := s2 e
      rw [lkR_no (fun k hk ck q => by
        have hr : rk (fun k => decide (ga w 62 k ≤ d)) (ky F D) n k ≤ n := cnt_n _ n
        rw [nI_eq (by omega) hI] at q
        have := no k hk
        rw [← Bool.not_eq_true] at this
        exact this ((okI k hk).mpr ⟨of_decide_eq_true ck, by omega⟩)), zen_n]
      simp (disch := first | exact Nat.le_of_ble_eq_true rfl | exact zct_i _ | exact zct_r _ | exact zct_J | exact zct_n | with_reducible assumption | (with_reducible show (zf _ _ _).isSome = true; exact Sh.some (by repeat first | with_reducible assumption | (with_reducible refine Sh.pf ?_ ?_; rotate_left 1; exact fun _ => by decide +kernel) | (with_reducible refine Sh.as ?_ ?_; rotate_left 1; exact fun _ => by decide +kernel) | (with_reducible refine Sh.asr ?_ ?_; rotate_left 1; exact fun _ => by decide +kernel) | with_reducible refine Sh.push ?_ | (with_reducible refine Sh.pfn ?_ ?_; rotate_left 1; omega) | (with_reducible refine Sh.asn ?_ ?_; rotate_left 1; omega)) (by decide) (by decide +kernel) (by decide +kernel)) | exact rfl | exact zb01 _ | decide | fail) only [e208_12, e208_13, e208_16, e208_18, e208_20, e208_21, e208_99, e208_101, e208_103, e208_106, e208_108, e208_109, e208_111, e208_112, e208_114, e208_115, e208_116, e208_118, e208_121, e208_124, e208_126, zgd_true, zcl_ite, zX, Nat.reduceLT, Option.isSome_some, true_and, and_true, zo_some, zoi_some, zon_some, zcl_some, Option.toList_some, Option.toList_none, List.cons_append, List.nil_append, ite_true, ite_false, ↓reduceIte, z10, eq_self, not_true_eq_false, not_false_eq_true, and_self, or_true, true_or, q1, ch]
    | some m =>
      rw [e, zen_s] at ch
      obtain ⟨hm, om, mn⟩ := s1 m e
      have om' := (okI m hm).mp om
      have m31 : m < 2 ^ 31 := by omega
      have em := rk_least (ct := fun k => decide (ga w 62 k ≤ d)) inj hm (decide_eq_true om'.1) om'.2 (fun j hj cj tj => mn j hj ((okI j hj).mpr ⟨of_decide_eq_true cj, tj⟩)) hQ
      have hM2 : M ||| 2 ^ m < 65536 := Nat.or_lt_two_pow (n := 16) hM (Nat.pow_lt_pow_right (by decide) (by omega))
      have sh := shl16 m (by omega)
      have v8c : ∀ v : Value, v = (if n = 0 then v8 else .int (if (decide (ga w 62 (n - 1) ≤ d) && !M.testBit (n - 1)) = true then 1 else 0)) → True := fun _ _ => trivial
      rw [if_neg (show ¬ n = 0 by omega)] at ch
      by_cases last : t = I
      · have er : lkR (fun k => decide (ga w 62 k ≤ d)) (ky F D) n (nI I) = some m := lkR_eq inj hn hm (decide_eq_true om'.1) (by omega)
        have q2 : nI I < nI (t + 1) := nI_lt (by omega) (by omega)
        rw [er, zen_s]
        simp (disch := first | exact Nat.le_of_ble_eq_true rfl | exact zct_i _ | exact zct_r _ | exact zct_J | exact zct_n | with_reducible assumption | (with_reducible show (zf _ _ _).isSome = true; exact Sh.some (by repeat first | with_reducible assumption | (with_reducible refine Sh.pf ?_ ?_; rotate_left 1; exact fun _ => by decide +kernel) | (with_reducible refine Sh.as ?_ ?_; rotate_left 1; exact fun _ => by decide +kernel) | (with_reducible refine Sh.asr ?_ ?_; rotate_left 1; exact fun _ => by decide +kernel) | with_reducible refine Sh.push ?_ | (with_reducible refine Sh.pfn ?_ ?_; rotate_left 1; omega) | (with_reducible refine Sh.asn ?_ ?_; rotate_left 1; omega)) (by decide) (by decide +kernel) (by decide +kernel)) | exact rfl | exact zb01 _ | decide | fail) only [e208_12, e208_13, e208_16, e208_18, e208_20, e208_21, e208_99, e208_101, e208_103, e208_106, e208_108, e208_109, e208_111, e208_112, e208_114, e208_115, e208_116, e208_118, e208_121, e208_124, e208_126, zgd_true, zcl_ite, zX, Nat.reduceLT, Option.isSome_some, true_and, and_true, zo_some, zoi_some, zon_some, zcl_some, Option.toList_some, Option.toList_none, List.cons_append, List.nil_append, ite_true, ite_false, ↓reduceIte, z10, eq_self, not_true_eq_false, not_false_eq_true, and_self, or_true, true_or, q1, ch, zNone, sh, nx_or, nI_1]
        rw [e208_10]
        simp (disch := first | exact Nat.le_of_ble_eq_true rfl | exact zct_i _ | exact zct_r _ | exact zct_J | exact zct_n | with_reducible assumption | (with_reducible show (zf _ _ _).isSome = true; exact Sh.some (by repeat first | with_reducible assumption | (with_reducible refine Sh.pf ?_ ?_; rotate_left 1; exact fun _ => by decide +kernel) | (with_reducible refine Sh.as ?_ ?_; rotate_left 1; exact fun _ => by decide +kernel) | (with_reducible refine Sh.asr ?_ ?_; rotate_left 1; exact fun _ => by decide +kernel) | with_reducible refine Sh.push ?_ | (with_reducible refine Sh.pfn ?_ ?_; rotate_left 1; omega) | (with_reducible refine Sh.asn ?_ ?_; rotate_left 1; omega)) (by decide) (by decide +kernel) (by decide +kernel)) | exact rfl | exact zb01 _ | decide | fail) only [e208_12, e208_13, e208_16, e208_18, e208_20, e208_21, e208_99, e208_101, e208_103, e208_106, e208_108, e208_109, e208_111, e208_112, e208_114, e208_115, e208_116, e208_118, e208_121, e208_124, e208_126, zgd_true, zcl_ite, zX, Nat.reduceLT, Option.isSome_some, true_and, and_true, zo_some, zoi_some, zon_some, zcl_some, Option.toList_some, Option.toList_none, List.cons_append, List.nil_append, ite_true, ite_false, ↓reduceIte, z10, eq_self, not_true_eq_false, not_false_eq_true, and_self, or_true, true_or, q2]
      · have ih1 := ih (t + 1) (M ||| 2 ^ m) (nI m) (.int (nI n)) (.int (if (decide (ga w 62 (n - 1) ≤ d) && !M.testBit (n - 1)) = true then 1 else 0)) (by omega) (by omega) hM2 rfl (fun k hk => by
          rw [Nat.testBit_or, Nat.testBit_two_pow, hB k hk]
          by_cases ek : m = k
          · subst ek
            rw [decide_eq_true om'.1, em]
            simp
          · rw [decide_eq_false ek, Bool.or_false]
            by_cases ck : ga w 62 k ≤ d
            · rw [decide_eq_true ck, Bool.true_and, Bool.true_and]
              apply decide_eq_decide.mpr
              constructor
              · intro q; omega
              · intro q
                refine Classical.byContradiction (fun r => ek ?_)
                exact rk_inj (ct := fun k => decide (ga w 62 k ≤ d)) inj hm hk (decide_eq_true om'.1) (decide_eq_true ck) (by omega)
            · rw [decide_eq_false ck, Bool.false_and, Bool.false_and]) (Q_succ (ct := fun k => decide (ga w 62 k ≤ d)) inj hm (decide_eq_true om'.1) em hQ)
        simp (disch := first | exact Nat.le_of_ble_eq_true rfl | exact zct_i _ | exact zct_r _ | exact zct_J | exact zct_n | with_reducible assumption | (with_reducible show (zf _ _ _).isSome = true; exact Sh.some (by repeat first | with_reducible assumption | (with_reducible refine Sh.pf ?_ ?_; rotate_left 1; exact fun _ => by decide +kernel) | (with_reducible refine Sh.as ?_ ?_; rotate_left 1; exact fun _ => by decide +kernel) | (with_reducible refine Sh.asr ?_ ?_; rotate_left 1; exact fun _ => by decide +kernel) | with_reducible refine Sh.push ?_ | (with_reducible refine Sh.pfn ?_ ?_; rotate_left 1; omega) | (with_reducible refine Sh.asn ?_ ?_; rotate_left 1; omega)) (by decide) (by decide +kernel) (by decide +kernel)) | exact rfl | exact zb01 _ | decide | fail) only [e208_12, e208_13, e208_16, e208_18, e208_20, e208_21, e208_99, e208_101, e208_103, e208_106, e208_108, e208_109, e208_111, e208_112, e208_114, e208_115, e208_116, e208_118, e208_121, e208_124, e208_126, zgd_true, zcl_ite, zX, Nat.reduceLT, Option.isSome_some, true_and, and_true, zo_some, zoi_some, zon_some, zcl_some, Option.toList_some, Option.toList_none, List.cons_append, List.nil_append, ite_true, ite_false, ↓reduceIte, z10, eq_self, not_true_eq_false, not_false_eq_true, and_self, or_true, true_or, q1, ch, zNone, sh, nx_or, nI_1, ih1]
theorem m_likeCase {w : zH} (h : Sh w) {n b : Nat} {Mk F D : Nat → Nat} {H : Nat → Int32} (C : CN w n Mk F D H b) (d i : Int32) : zrun none (208, 0, [.ref 35, .int (nI b), .int d, .int i, zJ, zJ, zJ, zJ, zJ], [], w) = some (some (.int (zen (lkR (fun k => decide (ga w 62 k ≤ d)) (ky F D) n i))), w) := by
  by_cases q : i < 0
  · have e : lkR (fun k => decide (ga w 62 k ≤ d)) (ky F D) n i = none := lkR_no (fun k hk _ r => by
      have hr : rk (fun k => decide (ga w 62 k ≤ d)) (ky F D) n k ≤ n := cnt_n _ n
      have := C.1
      rw [← r] at q
      exact nI_pos (by omega) q)
    rw [e, zen_n]
    simp (disch := first | exact Nat.le_of_ble_eq_true rfl | exact zct_i _ | exact zct_r _ | exact zct_J | exact zct_n | with_reducible assumption | (with_reducible show (zf _ _ _).isSome = true; exact Sh.some (by repeat first | with_reducible assumption | (with_reducible refine Sh.pf ?_ ?_; rotate_left 1; exact fun _ => by decide +kernel) | (with_reducible refine Sh.as ?_ ?_; rotate_left 1; exact fun _ => by decide +kernel) | (with_reducible refine Sh.asr ?_ ?_; rotate_left 1; exact fun _ => by decide +kernel) | with_reducible refine Sh.push ?_ | (with_reducible refine Sh.pfn ?_ ?_; rotate_left 1; omega) | (with_reducible refine Sh.asn ?_ ?_; rotate_left 1; omega)) (by decide) (by decide +kernel) (by decide +kernel)) | exact rfl | exact zb01 _ | decide | fail) only [e208_0, e208_1, e208_3, e208_5, e208_7, e208_8, zgd_true, zcl_ite, zX, Nat.reduceLT, Option.isSome_some, true_and, and_true, zo_some, zoi_some, zon_some, zcl_some, Option.toList_some, Option.toList_none, List.cons_append, List.nil_append, ite_true, ite_false, ↓reduceIte, z10, eq_self, not_true_eq_false, not_false_eq_true, and_self, or_true, true_or]
    rw [e208_10]
    simp (disch := first | exact Nat.le_of_ble_eq_true rfl | exact zct_i _ | exact zct_r _ | exact zct_J | exact zct_n | with_reducible assumption | (with_reducible show (zf _ _ _).isSome = true; exact Sh.some (by repeat first | with_reducible assumption | (with_reducible refine Sh.pf ?_ ?_; rotate_left 1; exact fun _ => by decide +kernel) | (with_reducible refine Sh.as ?_ ?_; rotate_left 1; exact fun _ => by decide +kernel) | (with_reducible refine Sh.asr ?_ ?_; rotate_left 1; exact fun _ => by decide +kernel) | with_reducible refine Sh.push ?_ | (with_reducible refine Sh.pfn ?_ ?_; rotate_left 1; omega) | (with_reducible refine Sh.asn ?_ ?_; rotate_left 1; omega)) (by decide) (by decide +kernel) (by decide +kernel)) | exact rfl | exact zb01 _ | decide | fail) only [e208_12, e208_13, e208_16, e208_18, e208_20, e208_21, e208_99, e208_101, e208_103, e208_106, e208_108, e208_109, e208_111, e208_112, e208_114, e208_115, e208_116, e208_118, e208_121, e208_124, e208_126, zgd_true, zcl_ite, zX, Nat.reduceLT, Option.isSome_some, true_and, and_true, zo_some, zoi_some, zon_some, zcl_some, Option.toList_some, Option.toList_none, List.cons_append, List.nil_append, ite_true, ite_false, ↓reduceIte, z10, eq_self, not_true_eq_false, not_false_eq_true, and_self, or_true, true_or, q]
  · obtain ⟨I, hI, rfl⟩ := nI_of q
    have lp := m_likeCase_loop h C d hI (n + 1) 0 0 (-1000000) zJ zJ (by omega) (by omega) (by decide) rfl (fun k hk => by
      rw [Nat.zero_testBit]
      simp) (by
      have : (fun k => decide (ga w 62 k ≤ d) && decide (rk (fun k => decide (ga w 62 k ≤ d)) (ky F D) n k < 0)) = fun _ => false := funext (fun k => by simp)
      rw [this]
      exact cnt_0 n)
    rw [nI_0] at lp
    simp (disch := first | exact Nat.le_of_ble_eq_true rfl | exact zct_i _ | exact zct_r _ | exact zct_J | exact zct_n | with_reducible assumption | (with_reducible show (zf _ _ _).isSome = true; exact Sh.some (by repeat first | with_reducible assumption | (with_reducible refine Sh.pf ?_ ?_; rotate_left 1; exact fun _ => by decide +kernel) | (with_reducible refine Sh.as ?_ ?_; rotate_left 1; exact fun _ => by decide +kernel) | (with_reducible refine Sh.asr ?_ ?_; rotate_left 1; exact fun _ => by decide +kernel) | with_reducible refine Sh.push ?_ | (with_reducible refine Sh.pfn ?_ ?_; rotate_left 1; omega) | (with_reducible refine Sh.asn ?_ ?_; rotate_left 1; omega)) (by decide) (by decide +kernel) (by decide +kernel)) | exact rfl | exact zb01 _ | decide | fail) only [e208_0, e208_1, e208_3, e208_5, e208_7, e208_8, zgd_true, zcl_ite, zX, Nat.reduceLT, Option.isSome_some, true_and, and_true, zo_some, zoi_some, zon_some, zcl_some, Option.toList_some, Option.toList_none, List.cons_append, List.nil_append, ite_true, ite_false, ↓reduceIte, z10, eq_self, not_true_eq_false, not_false_eq_true, and_self, or_true, true_or]
    exact lp
