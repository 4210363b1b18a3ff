/-! the six strings -/
theorem zWd_of {r b : Nat} {W : List Nat} (hl : W.length ≤ 100) (h256 : (W.all fun c => decide (c < 256)) = true) (h1 : ∀ u : zH, zis u r 13) (h2 : ∀ u : zH, zf u r 1300 = some (.ref b)) (h3 : ∀ u : zH, zf u r 1301 = some (.int 0)) (hz : ∀ u : zH, zr none u b = some (103, W.map (fun c => Value.int (nI c)))) : zWd r W := by
  have g : ∀ i, W.getD i 0 < 256 := by
    intro i
    rw [List.getD_eq_getElem?_getD]
    by_cases hi : i < W.length
    · rw [List.getElem?_eq_getElem hi]
      exact of_decide_eq_true (List.all_eq_true.mp h256 _ (List.getElem_mem hi))
    · rw [List.getElem?_eq_none (by omega)]
      decide
  have h4 : ∀ u : zH, zal u b = some W.length := by
    intro u
    unfold zal
    rw [hz]
    dsimp only
    rw [if_pos (by decide), List.length_map]
  have h5 : ∀ (u : zH) (i : Nat), i < W.length → zai u b 103 (nI i) = some (nI (W.getD i 0)) := by
    intro u i hi
    unfold zai
    rw [hz]
    dsimp only
    rw [if_pos ⟨rfl, nI_pos (by omega)⟩, nI_clamp (by omega), List.getElem?_map, List.getElem?_eq_getElem hi, List.getD_eq_getElem?_getD, List.getElem?_eq_getElem hi]
    rfl
  refine ⟨hl, g, h1, fun u => ?_, fun u i hi => ?_⟩
  · have e : Int32.ofNat W.length >>> (0 &&& 31) = nI W.length := by
      have := pk_shrN (n := W.length) (by omega) (0 &&& 31) 0 (by decide)
      rw [Nat.pow_zero, Nat.div_one] at this
      exact this
    have z := h1 u
    simp (disch := first | exact Nat.le_of_ble_eq_true rfl | exact zct_i _ | exact zct_r _ | exact zct_J | exact zct_n | with_reducible assumption | (with_reducible show (zf _ _ _).isSome = true; exact Sh.some (by repeat first | with_reducible assumption | (with_reducible refine Sh.pf ?_ ?_; rotate_left 1; exact fun _ => by decide +kernel) | (with_reducible refine Sh.as ?_ ?_; rotate_left 1; exact fun _ => by decide +kernel) | (with_reducible refine Sh.asr ?_ ?_; rotate_left 1; exact fun _ => by decide +kernel) | with_reducible refine Sh.push ?_ | (with_reducible refine Sh.pfn ?_ ?_; rotate_left 1; omega) | (with_reducible refine Sh.asn ?_ ?_; rotate_left 1; omega)) (by decide) (by decide +kernel) (by decide +kernel)) | exact rfl | exact zb01 _ | decide | fail) only [e230_0, e230_1, e230_4, e230_5, e230_6, e230_9, e230_10, e232_0, e232_3, e232_6, e232_7, e232_10, e232_13, e232_14, zgd_true, zcl_ite, zX, Nat.reduceLT, Option.isSome_some, true_and, and_true, zo_some, zoi_some, zon_some, zcl_some, Option.toList_some, Option.toList_none, List.cons_append, List.nil_append, ite_true, ite_false, ↓reduceIte, z10, eq_self, not_true_eq_false, not_false_eq_true, and_self, or_true, true_or, h2, h3, h4, z, e, show ((1 : Int32) = 0) = False from eq_false (by decide)]
  · have z := h1 u
    have gi' := g i
    have q1 : ¬ nI i < 0 := nI_pos (by omega)
    have q2 : nI i < Int32.ofNat W.length := nI_lt hi (by omega)
    have an : nI (W.getD i 0) &&& 255 = nI (W.getD i 0) := by
      rw [pk_andN (by omega) 8 (by decide), Nat.mod_eq_of_lt gi']
    have ac := (sb_byte _ gi').2.1
    have nc := (pk_charN (q := W.getD i 0) (by omega)).1
    have a5 := h5 u i hi
    simp (disch := first | exact Nat.le_of_ble_eq_true rfl | exact zct_i _ | exact zct_r _ | exact zct_J | exact zct_n | with_reducible assumption | (with_reducible show (zf _ _ _).isSome = true; exact Sh.some (by repeat first | with_reducible assumption | (with_reducible refine Sh.pf ?_ ?_; rotate_left 1; exact fun _ => by decide +kernel) | (with_reducible refine Sh.as ?_ ?_; rotate_left 1; exact fun _ => by decide +kernel) | (with_reducible refine Sh.asr ?_ ?_; rotate_left 1; exact fun _ => by decide +kernel) | with_reducible refine Sh.push ?_ | (with_reducible refine Sh.pfn ?_ ?_; rotate_left 1; omega) | (with_reducible refine Sh.asn ?_ ?_; rotate_left 1; omega)) (by decide) (by decide +kernel) (by decide +kernel)) | exact rfl | exact zb01 _ | decide | fail) only [e231_0, e231_1, e231_4, e231_7, e231_8, e231_11, e231_12, e231_15, e233_0, e233_3, e233_6, e233_7, e233_10, e233_13, e233_14, e233_17, e233_18, e235_0, e235_1, e235_1n, e235_2, e235_3, e235_6, e235_6n, e235_7, e235_8, e235_9, e235_12, e235_13, e235_14, e234_0, e234_1, e234_2, e234_5, e234_8, e234_9, e241_0, e241_1, e241_4, e241_5, e241_6, e241_9, e241_9n, e241_10, e241_11, e241_16, e241_17, zgd_true, zcl_ite, zX, Nat.reduceLT, Option.isSome_some, true_and, and_true, zo_some, zoi_some, zon_some, zcl_some, Option.toList_some, Option.toList_none, List.cons_append, List.nil_append, ite_true, ite_false, ↓reduceIte, z10, eq_self, not_true_eq_false, not_false_eq_true, and_self, or_true, true_or, h2, h3, h4, z, q1, q2, an, ac, nc, a5, show ((1 : Int32) = 0) = False from eq_false (by decide)]
def sAct : List Nat := [97, 99, 116]
def sGrade : List Nat := [103, 114, 97, 100, 101]
def sSort : List Nat := [119, 105, 110, 100, 111, 119, 32, 119, 97, 108, 108, 32, 114, 111, 111, 102, 32, 100, 111, 111, 114, 32, 102, 108, 111, 111, 114, 32, 97, 110, 121]
def sWork : List Nat := [114, 101, 112, 97, 105, 114, 32, 99, 104, 97, 110, 103, 101, 32, 114, 101, 109, 111, 118, 101, 32, 112, 97, 105, 110, 116]
def sOlder : List Nat := [111, 108, 100, 101, 114]
def sEnd : List Nat := [110, 101, 101, 100, 115, 32, 102, 114, 101, 101]
theorem d_act : zWd 1000000 sAct := zWd_of (by decide) (by decide) (fun _ => ⟨_, rfl⟩) (fun _ => rfl) (fun _ => rfl) (fun _ => rfl)
theorem d_grade : zWd 1000001 sGrade := zWd_of (by decide) (by decide) (fun _ => ⟨_, rfl⟩) (fun _ => rfl) (fun _ => rfl) (fun _ => rfl)
theorem d_sort : zWd 1000002 sSort := zWd_of (by decide) (by decide) (fun _ => ⟨_, rfl⟩) (fun _ => rfl) (fun _ => rfl) (fun _ => rfl)
theorem d_work : zWd 1000003 sWork := zWd_of (by decide) (by decide) (fun _ => ⟨_, rfl⟩) (fun _ => rfl) (fun _ => rfl) (fun _ => rfl)
theorem d_older : zWd 1000004 sOlder := zWd_of (by decide) (by decide) (fun _ => ⟨_, rfl⟩) (fun _ => rfl) (fun _ => rfl) (fun _ => rfl)
theorem d_end : zWd 1000005 sEnd := zWd_of (by decide) (by decide) (fun _ => ⟨_, rfl⟩) (fun _ => rfl) (fun _ => rfl) (fun _ => rfl)
/-! the state of the reader -/
abbrev zTk : Type := Nat × Nat × Nat × Nat × Nat
abbrev tsk (S : zTk) : Nat := S.1
abbrev tss (S : zTk) : Nat := S.2.1
abbrev tsx (S : zTk) : Nat := S.2.2.1
abbrev tsf (S : zTk) : Nat := S.2.2.2.1
abbrev tsp (S : zTk) : Nat := S.2.2.2.2
def zOk (t : Nat → Nat) (n : Nat) (S : zTk) : Prop := (tsk S) ≤ 4 ∧ (tss S) ≤ (tsx S) ∧ (tsx S) ≤ n ∧ (tsf S) ≤ 3 ∧ ((tsk S) = 1 → ∀ i, (tss S) ≤ i → i < (tsx S) → qL (t i) = true) ∧ ((tsk S) = 2 → (tsx S) - (tss S) ≤ 5 ∧ ∀ i, (tss S) ≤ i → i < (tsx S) → qF (t i) = true)
def tC (n : Nat) (S : zTk) (u : zH) : Prop := gi u 5 901 = nI n ∧ gi u 5 902 = nI (tsk S) ∧ gi u 5 903 = nI (tss S) ∧ gi u 5 904 = nI (tsx S) ∧ gi u 5 905 = nI (tsf S) ∧ ((tsf S) ≠ 0 → gi u 5 906 = nI (tsp S))
def tM (n : Nat) (S : zTk) (u : zH) : Prop := gi u 35 1223 = nI n ∧ gi u 35 1224 = nI (tsx S) ∧ gi u 35 1225 = nI (km (tsk S)) ∧ gi u 35 1226 = nI (tss S) ∧ gi u 35 1227 = nI (tsx S) ∧ gi u 35 1228 = nI (tsf S) ∧ ((tsf S) ≠ 0 → gi u 35 1229 = nI (tsp S))
def pAdv (t : Nat → Nat) (n : Nat) (S : zTk) : zTk := ⟨tkK t n (tsx S), tkS t n (tsx S), tkX t n (tsx S), (tsf S), (tsp S)⟩
def pRef (S : zTk) (c : Nat) : zTk := if (tsf S) = 0 then ⟨(tsk S), (tss S), (tsx S), c, (tss S)⟩ else S
def plc (W : List Nat) (t : Nat → Nat) (S : zTk) : Option Nat := if (tsk S) = 1 then pla W (tb t (tss S) (tsx S)) W.length 0 0 0 else none
theorem zOk_adv {t : Nat → Nat} {n : Nat} {S : zTk} (h : zOk t n S) : zOk t n (pAdv t n S) := by
  obtain ⟨h1, h2, h3, h4, h5, h6⟩ := h
  have hx := tkX_le (t := t) h3
  have ex := tkX_e t n (tsx S)
  show tkK t n (tsx S) ≤ 4 ∧ tkS t n (tsx S) ≤ tkX t n (tsx S) ∧ tkX t n (tsx S) ≤ n ∧ tsf S ≤ 3 ∧ (tkK t n (tsx S) = 1 → ∀ i, tkS t n (tsx S) ≤ i → i < tkX t n (tsx S) → qL (t i) = true) ∧ (tkK t n (tsx S) = 2 → tkX t n (tsx S) - tkS t n (tsx S) ≤ 5 ∧ ∀ i, tkS t n (tsx S) ≤ i → i < tkX t n (tsx S) → qF (t i) = true)
  rw [tkK_e t n (tsx S)]
  refine ⟨?_, hx.1, hx.2, h4, ?_, ?_⟩
  · repeat' split
    all_goals omega
  · by_cases b1 : n ≤ tkS t n (tsx S)
    · rw [if_pos b1]; intro q; cases q
    · rw [if_neg b1] at ex ⊢
      by_cases b2 : qL (t (tkS t n (tsx S))) = true
      · rw [if_pos b2] at ex
        intro _ i i1 i2
        rw [ex] at i2
        exact adv_q qL t _ _ i i1 i2
      · rw [if_neg b2]
        intro q
        split at q
        · split at q <;> cases q
        · split at q <;> cases q
  · by_cases b1 : n ≤ tkS t n (tsx S)
    · rw [if_pos b1]; intro q; cases q
    · rw [if_neg b1] at ex ⊢
      by_cases b2 : qL (t (tkS t n (tsx S))) = true
      · rw [if_pos b2]; intro q; cases q
      · rw [if_neg b2] at ex ⊢
        by_cases b3 : qF (t (tkS t n (tsx S))) = true
        · rw [if_pos b3] at ex ⊢
          intro q
          split at q
          · refine ⟨by assumption, fun i i1 i2 => ?_⟩
            rw [ex] at i2
            exact adv_q qF t _ _ i i1 i2
          · cases q
        · rw [if_neg b3]
          intro q
          split at q <;> cases q
theorem zOk_ref {t : Nat → Nat} {n c : Nat} {S : zTk} (h : zOk t n S) (hc : c ≤ 3) : zOk t n (pRef S c) := by
  unfold pRef
  split
  · exact ⟨h.1, h.2.1, h.2.2.1, hc, h.2.2.2.2.1, h.2.2.2.2.2⟩
  · exact h
