/-! THE FIXED CELLS: what the two constructors make lies at 0 .. 64 and keeps its shape (gen_41.py writes this) -/
/-- kind, length, and the references that never change, by address -/
def zshL : List (Nat × Nat × List (Option Nat)) := [
  (11, 20, [some 1, some 2, some 4, none, some 5, some 7, none, none, some 8, none, some 9, some 12, none, some 13, some 14, some 15, none, some 18, none, none]),
  (208, 8, [some 19, some 21, some 23, some 25, some 27, some 29, some 31, some 33]),
  (3, 3, [some 3, none, none]),
  (205, 30, []),
  (207, 16, []),
  (9, 7, [some 6, none, none, none, none, none, none]),
  (101, 500, []),
  (200, 24, []),
  (204, 10, []),
  (6, 3, [some 10, some 11, none]),
  (100, 8, []),
  (100, 256, []),
  (210, 20, []),
  (100, 12, []),
  (100, 12, []),
  (2, 3, [some 16, some 17, none]),
  (201, 16, []),
  (100, 12, []),
  (100, 16, []),
  (8, 4, [some 20, none, none, none]),
  (100, 100, []),
  (8, 4, [some 22, none, none, none]),
  (100, 100, []),
  (8, 4, [some 24, none, none, none]),
  (100, 100, []),
  (8, 4, [some 26, none, none, none]),
  (100, 100, []),
  (8, 4, [some 28, none, none, none]),
  (100, 100, []),
  (8, 4, [some 30, none, none, none]),
  (100, 100, []),
  (8, 4, [some 32, none, none, none]),
  (100, 100, []),
  (8, 4, [some 34, none, none, none]),
  (100, 100, []),
  (12, 51, [none, none, some 36, some 37, some 38, none, none, some 39, some 40, some 41, some 42, none, some 43, some 44, some 45, some 46, none, none, some 47, none, some 48, none, none, none, none, none, none, none, none, none, none, some 49, some 50, some 51, some 52, some 53, some 54, none, some 55, some 56, none, some 57, some 58, some 59, none, some 60, some 61, some 62, some 63, some 64, none]),
  (100, 8, []),
  (100, 8, []),
  (100, 800, []),
  (100, 30, []),
  (100, 30, []),
  (100, 30, []),
  (100, 30, []),
  (100, 16, []),
  (100, 16, []),
  (100, 16, []),
  (100, 16, []),
  (100, 144, []),
  (100, 500, []),
  (100, 10, []),
  (100, 10, []),
  (100, 10, []),
  (100, 10, []),
  (100, 10, []),
  (100, 80, []),
  (100, 8, []),
  (100, 256, []),
  (100, 20, []),
  (100, 20, []),
  (100, 20, []),
  (100, 16, []),
  (100, 16, []),
  (100, 16, []),
  (100, 12, []),
  (100, 16, [])]
def zsh (a : Nat) : Nat × Nat × List (Option Nat) := zshL.getD a (0, 0, [])
def zptr (a j : Nat) : Option Nat := (zsh a).2.2.getD j none
def zslot (a j : Nat) (v : Value) : Prop := match zptr a j with
  | some r => v = .ref r
  | none => if 200 ≤ (zsh a).1 then zref v = true else zint v = true
def Sh (w : zH) : Prop := ∀ a, a < 65 → ∃ vs : List Value, w[a]? = some ((zsh a).1, vs) ∧ vs.length = (zsh a).2.1 ∧ ∀ (j : Nat) (v : Value), vs[j]? = some v → zslot a j v
/-- readers -/
def gi (w : zH) (a n : Nat) : Int32 := match zf w a n with
  | some (.int x) => x
  | _ => 0
def ga (w : zH) (a j : Nat) : Int32 := match w[a]? with
  | some (_, vs) => match vs[j]? with
    | some (.int x) => x
    | _ => 0
  | none => 0
def gr (w : zH) (a j : Nat) : Value := match w[a]? with
  | some (_, vs) => vs.getD j .null
  | none => .null
theorem z65 : (65 : Nat) < zX := by decide
theorem zr_fix {w : zH} {a : Nat} (h : a < 65) : zr none w a = w[a]? := by
  unfold zr
  rw [if_pos (Nat.lt_trans h z65)]
theorem Sh.int {w : zH} {a n : Nat} (h : Sh w) (ha : a < 65) (hk : (zsh a).1 = n / 100) (h2 : (zsh a).1 < 100) (hl : n % 100 < (zsh a).2.1) (hp : zptr a (n % 100) = none) : zf w a n = some (.int (gi w a n)) := by
  obtain ⟨vs, h1, h3, h4⟩ := h a ha
  have hlt : n % 100 < vs.length := by omega
  have hz := h4 _ _ (List.getElem?_eq_getElem hlt)
  unfold zslot at hz
  rw [hp] at hz
  dsimp only at hz
  rw [if_neg (by omega)] at hz
  have e : zf w a n = vs[n % 100]? := by
    unfold zf
    rw [zr_fix ha, h1]
    dsimp only
    rw [if_pos hk]
  unfold gi
  rw [e, List.getElem?_eq_getElem hlt]
  cases hv : vs[n % 100] with
  | int x => rfl
  | _ => rw [hv] at hz; cases hz
theorem Sh.ptr {w : zH} {a n r : Nat} (h : Sh w) (ha : a < 65) (hk : (zsh a).1 = n / 100) (hl : n % 100 < (zsh a).2.1) (hp : zptr a (n % 100) = some r) : zf w a n = some (.ref r) := by
  obtain ⟨vs, h1, h3, h4⟩ := h a ha
  have hlt : n % 100 < vs.length := by omega
  have hz := h4 _ _ (List.getElem?_eq_getElem hlt)
  unfold zslot at hz
  rw [hp] at hz
  dsimp only at hz
  unfold zf
  rw [zr_fix ha, h1]
  dsimp only
  rw [if_pos hk, List.getElem?_eq_getElem hlt, hz]
theorem Sh.is {w : zH} {a k : Nat} (h : Sh w) (ha : a < 65) (hk : (zsh a).1 = k) : zis w a k := by
  obtain ⟨vs, h1, -⟩ := h a ha
  exact ⟨vs, by rw [zr_fix ha, h1, hk]⟩
theorem Sh.ai {w : zH} {a k : Nat} {j : Int32} (h : Sh w) (ha : a < 65) (hk : (zsh a).1 = k) (h100 : k = 100 ∨ k = 101) (hp : (zsh a).2.2 = []) : zai w a k j = if 0 ≤ j ∧ j.toNatClampNeg < (zsh a).2.1 then some (ga w a j.toNatClampNeg) else none := by
  obtain ⟨vs, h1, h3, h4⟩ := h a ha
  unfold zai ga
  rw [zr_fix ha, h1]
  dsimp only
  by_cases h0 : 0 ≤ j
  · rw [if_pos ⟨hk, Int32.not_lt.mpr h0⟩]
    by_cases hl : j.toNatClampNeg < vs.length
    · rw [if_pos ⟨h0, by omega⟩, List.getElem?_eq_getElem hl]
      have hz := h4 _ _ (List.getElem?_eq_getElem hl)
      have hpt : zptr a j.toNatClampNeg = none := by unfold zptr; rw [hp]; rfl
      unfold zslot at hz
      rw [hpt] at hz
      dsimp only at hz
      rw [if_neg (by omega)] at hz
      cases hv : vs[j.toNatClampNeg] with
      | int x => rfl
      | _ => rw [hv] at hz; cases hz
    · rw [if_neg (fun q => hl (by omega)), List.getElem?_eq_none (by omega)]
  · rw [if_neg (fun q => h0 (Int32.not_lt.mp q.2)), if_neg (fun q => h0 q.1)]
theorem Sh.in {w : zH} {a k : Nat} {j : Int32} (h : Sh w) (ha : a < 65) (hk : (zsh a).1 = k) : zin? w a k j ↔ (0 ≤ j ∧ j.toNatClampNeg < (zsh a).2.1) := by
  obtain ⟨vs, h1, h3, h4⟩ := h a ha
  constructor
  · rintro ⟨-, vs', h5, h6, h7⟩
    rw [h1] at h5
    cases h5
    exact ⟨Int32.not_lt.mp h6, by omega⟩
  · rintro ⟨h5, h6⟩
    exact ⟨Nat.lt_trans ha z65, vs, by rw [h1, hk], Int32.not_lt.mpr h5, by omega⟩
theorem Sh.al {w : zH} {a : Nat} (h : Sh w) (ha : a < 65) (hk : 100 ≤ (zsh a).1) : zal w a = some (zsh a).2.1 := by
  obtain ⟨vs, h1, h3, h4⟩ := h a ha
  unfold zal
  rw [zr_fix ha, h1]
  dsimp only
  rw [if_pos hk, h3]
theorem Sh.aa {w : zH} {a : Nat} {j : Int32} (h : Sh w) (ha : a < 65) (hk : 200 ≤ (zsh a).1) : zaa w a j = if 0 ≤ j ∧ j.toNatClampNeg < (zsh a).2.1 then some (gr w a j.toNatClampNeg) else none := by
  obtain ⟨vs, h1, h3, h4⟩ := h a ha
  unfold zaa gr
  rw [zr_fix ha, h1]
  dsimp only
  by_cases h0 : 0 ≤ j
  · rw [if_pos ⟨hk, Int32.not_lt.mpr h0⟩]
    by_cases hl : j.toNatClampNeg < vs.length
    · rw [if_pos ⟨h0, by omega⟩, List.getElem?_eq_getElem hl, List.getD_eq_getElem?_getD, List.getElem?_eq_getElem hl]
      have hz := h4 _ _ (List.getElem?_eq_getElem hl)
      have hzr : zref vs[j.toNatClampNeg] = true := by
        unfold zslot at hz
        split at hz
        · rw [hz]; rfl
        · rw [if_pos hk] at hz; exact hz
      dsimp only
      rw [if_pos hzr]
      rfl
    · rw [if_neg (fun q => hl (by omega)), List.getElem?_eq_none (by omega)]
  · rw [if_neg (fun q => h0 (Int32.not_lt.mp q.2)), if_neg (fun q => h0 q.1)]
/-! writing -/
theorem zpf_len (w : zH) (a n : Nat) (v : Value) : (zpf w a n v).length = w.length := by
  unfold zpf
  split
  · simp
  · rfl
theorem zas_len (w : zH) (a : Nat) (j : Int32) (v : Value) : (zas w a j v).length = w.length := by
  unfold zas
  split
  · simp
  · rfl
theorem zpf_get_ne {w : zH} {a n b : Nat} {v : Value} (h : a ≠ b) : (zpf w a n v)[b]? = w[b]? := by
  unfold zpf
  split
  · rw [List.getElem?_set_ne h]
  · rfl
theorem zas_get_ne {w : zH} {a b : Nat} {j : Int32} {v : Value} (h : a ≠ b) : (zas w a j v)[b]? = w[b]? := by
  unfold zas
  split
  · rw [List.getElem?_set_ne h]
  · rfl
theorem zpf_get_eq {w : zH} {a n k : Nat} {v : Value} {vs : List Value} (h : w[a]? = some (k, vs)) : (zpf w a n v)[a]? = some (k, vs.set (n % 100) v) := by
  unfold zpf
  rw [h]
  dsimp only
  rw [List.getElem?_set_self (List.getElem?_eq_some_iff.mp h).1]
theorem zas_get_eq {w : zH} {a k : Nat} {j : Int32} {v : Value} {vs : List Value} (h : w[a]? = some (k, vs)) : (zas w a j v)[a]? = some (k, vs.set j.toNatClampNeg v) := by
  unfold zas
  rw [h]
  dsimp only
  rw [List.getElem?_set_self (List.getElem?_eq_some_iff.mp h).1]
theorem zr_eq {w w' : zH} {b : Nat} (h : w'[b]? = w[b]?) : zr none w' b = zr none w b := by
  unfold zr
  rw [h]
theorem zf_eq {w w' : zH} {b : Nat} (h : w'[b]? = w[b]?) (n : Nat) : zf w' b n = zf w b n := by
  unfold zf
  rw [zr_eq h]
theorem gi_eq {w w' : zH} {b : Nat} (h : w'[b]? = w[b]?) (n : Nat) : gi w' b n = gi w b n := by
  unfold gi
  rw [zf_eq h]
theorem ga_eq {w w' : zH} {b : Nat} (h : w'[b]? = w[b]?) (j : Nat) : ga w' b j = ga w b j := by
  unfold ga
  rw [h]
theorem gr_eq {w w' : zH} {b : Nat} (h : w'[b]? = w[b]?) (j : Nat) : gr w' b j = gr w b j := by
  unfold gr
  rw [h]
theorem zis_eq {w w' : zH} {b : Nat} (h : w'[b]? = w[b]?) (k : Nat) : zis w' b k = zis w b k := by
  unfold zis
  rw [zr_eq h]
/-- behind a store: other cells -/
theorem zf_pf1 {w : zH} {a n b k : Nat} {v : Value} (h : a ≠ b) : zf (zpf w a n v) b k = zf w b k := zf_eq (zpf_get_ne h) k
theorem gi_pf1 {w : zH} {a n b k : Nat} {v : Value} (h : a ≠ b) : gi (zpf w a n v) b k = gi w b k := gi_eq (zpf_get_ne h) k
theorem ga_pf1 {w : zH} {a n b k : Nat} {v : Value} (h : a ≠ b) : ga (zpf w a n v) b k = ga w b k := ga_eq (zpf_get_ne h) k
theorem gr_pf1 {w : zH} {a n b k : Nat} {v : Value} (h : a ≠ b) : gr (zpf w a n v) b k = gr w b k := gr_eq (zpf_get_ne h) k
theorem zis_pf1 {w : zH} {a n b k : Nat} {v : Value} (h : a ≠ b) : zis (zpf w a n v) b k = zis w b k := zis_eq (zpf_get_ne h) k
theorem zf_as1 {w : zH} {a b k : Nat} {j : Int32} {v : Value} (h : a ≠ b) : zf (zas w a j v) b k = zf w b k := zf_eq (zas_get_ne h) k
theorem gi_as1 {w : zH} {a b k : Nat} {j : Int32} {v : Value} (h : a ≠ b) : gi (zas w a j v) b k = gi w b k := gi_eq (zas_get_ne h) k
theorem ga_as1 {w : zH} {a b k : Nat} {j : Int32} {v : Value} (h : a ≠ b) : ga (zas w a j v) b k = ga w b k := ga_eq (zas_get_ne h) k
theorem gr_as1 {w : zH} {a b k : Nat} {j : Int32} {v : Value} (h : a ≠ b) : gr (zas w a j v) b k = gr w b k := gr_eq (zas_get_ne h) k
theorem zis_as1 {w : zH} {a b k : Nat} {j : Int32} {v : Value} (h : a ≠ b) : zis (zas w a j v) b k = zis w b k := zis_eq (zas_get_ne h) k
/-- behind a store into a field: the same cell -/
theorem zf_pf2 {w : zH} {a n k : Nat} {v : Value} (ha : a < zX) (h : n % 100 ≠ k % 100) : zf (zpf w a n v) a k = zf w a k := by
  cases hw : w[a]? with
  | none =>
    have : zpf w a n v = w := by unfold zpf; rw [hw]
    rw [this]
  | some q =>
    obtain ⟨c, vs⟩ := q
    unfold zf zr
    rw [if_pos ha, if_pos ha, zpf_get_eq hw, hw]
    dsimp only
    rw [List.getElem?_set_ne h]
theorem zf_pf3 {w : zH} {a n : Nat} {v : Value} (ha : a < zX) (h : (zf w a n).isSome = true) : zf (zpf w a n v) a n = some v := by
  unfold zf zr at h ⊢
  rw [if_pos ha] at h ⊢
  cases hw : w[a]? with
  | none => rw [hw] at h; cases h
  | some q =>
    obtain ⟨c, vs⟩ := q
    rw [hw] at h
    rw [zpf_get_eq hw]
    dsimp only at h ⊢
    split at h
    · rename_i hc
      obtain ⟨u, hu⟩ := Option.isSome_iff_exists.mp h
      rw [if_pos hc, List.getElem?_set_self (List.getElem?_eq_some_iff.mp hu).1]
    · cases h
theorem gi_pf2 {w : zH} {a n k : Nat} {v : Value} (ha : a < zX) (h : n % 100 ≠ k % 100) : gi (zpf w a n v) a k = gi w a k := by
  unfold gi
  rw [zf_pf2 ha h]
theorem gi_pf3 {w : zH} {a n : Nat} {x : Int32} (ha : a < zX) (h : (zf w a n).isSome = true) : gi (zpf w a n (.int x)) a n = x := by
  unfold gi
  rw [zf_pf3 ha h]
theorem zis_pf {w : zH} {a n b k : Nat} {v : Value} : zis (zpf w a n v) b k = zis w b k := by
  by_cases h : a = b
  · subst h
    unfold zis zr
    split
    · cases hw : w[a]? with
      | none =>
        have : zpf w a n v = w := by unfold zpf; rw [hw]
        rw [this, hw]
      | some q =>
        obtain ⟨c, vs⟩ := q
        rw [zpf_get_eq hw]
        apply propext
        constructor
        · rintro ⟨vs', e⟩; cases e; exact ⟨vs, rfl⟩
        · rintro ⟨vs', e⟩; cases e; exact ⟨_, rfl⟩
    · rfl
  · exact zis_pf1 h
theorem zin_pf {w : zH} {a n b k : Nat} {j : Int32} {v : Value} : zin? (zpf w a n v) b k j = zin? w b k j := by
  unfold zin?
  by_cases h : a = b
  · subst h
    cases hw : w[a]? with
    | none =>
      have : zpf w a n v = w := by unfold zpf; rw [hw]
      rw [this, hw]
    | some q =>
      obtain ⟨c, vs⟩ := q
      rw [zpf_get_eq hw]
      apply propext
      constructor
      · rintro ⟨h1, vs', e, h2, h3⟩; cases e; exact ⟨h1, vs, rfl, h2, by simpa using h3⟩
      · rintro ⟨h1, vs', e, h2, h3⟩; cases e; exact ⟨h1, _, rfl, h2, by simpa using h3⟩
  · rw [zpf_get_ne h]
theorem zin_as {w : zH} {a b k : Nat} {i j : Int32} {v : Value} : zin? (zas w a i v) b k j = zin? w b k j := by
  unfold zin?
  by_cases h : a = b
  · subst h
    cases hw : w[a]? with
    | none =>
      have : zas w a i v = w := by unfold zas; rw [hw]
      rw [this, hw]
    | some q =>
      obtain ⟨c, vs⟩ := q
      rw [zas_get_eq hw]
      apply propext
      constructor
      · rintro ⟨h1, vs', e, h2, h3⟩; cases e; exact ⟨h1, vs, rfl, h2, by simpa using h3⟩
      · rintro ⟨h1, vs', e, h2, h3⟩; cases e; exact ⟨h1, _, rfl, h2, by simpa using h3⟩
  · rw [zas_get_ne h]
theorem ga_as2 {w : zH} {a k i : Nat} {j x : Int32} (h : zin? w a k j) : ga (zas w a j (.int x)) a i = if j.toNatClampNeg = i then x else ga w a i := by
  obtain ⟨-, vs, hw, h0, hl⟩ := h
  unfold ga
  rw [zas_get_eq hw, hw]
  dsimp only
  rw [List.getElem?_set]
  by_cases hj : j.toNatClampNeg = i
  · rw [if_pos hj, if_pos hj, if_pos hl]
  · rw [if_neg hj, if_neg hj]
theorem gr_as2 {w : zH} {a k i : Nat} {j : Int32} {v : Value} (h : zin? w a k j) : gr (zas w a j v) a i = if j.toNatClampNeg = i then v else gr w a i := by
  obtain ⟨-, vs, hw, h0, hl⟩ := h
  unfold gr
  rw [zas_get_eq hw, hw]
  dsimp only
  rw [List.getD_eq_getElem?_getD, List.getElem?_set, List.getD_eq_getElem?_getD]
  by_cases hj : j.toNatClampNeg = i
  · rw [if_pos hj, if_pos hj, if_pos hl]; rfl
  · rw [if_neg hj, if_neg hj]
theorem zsm_pf {w : zH} {a n b k : Nat} {v : Value} : (zf (zpf w a n v) b k).isSome = (zf w b k).isSome := by
  by_cases h : a = b
  · subst h
    by_cases ha : a < zX
    · by_cases hk : n % 100 = k % 100
      · cases hw : w[a]? with
        | none =>
          have : zpf w a n v = w := by unfold zpf; rw [hw]
          rw [this]
        | some q =>
          obtain ⟨c, vs⟩ := q
          unfold zf zr
          rw [if_pos ha, if_pos ha, zpf_get_eq hw, hw]
          dsimp only
          split
          · rw [List.getElem?_set, if_pos hk]
            by_cases hl : n % 100 < vs.length
            · rw [if_pos hl, List.getElem?_eq_getElem (by omega)]; rfl
            · rw [if_neg hl, List.getElem?_eq_none (by omega)]
          · rfl
      · rw [zf_pf2 ha hk]
    · unfold zf zr
      rw [if_neg ha, if_neg ha]
  · rw [zf_pf1 h]
theorem zsm_as {w : zH} {a b k : Nat} {j : Int32} {v : Value} : (zf (zas w a j v) b k).isSome = (zf w b k).isSome := by
  by_cases h : a = b
  · subst h
    by_cases ha : a < zX
    · cases hw : w[a]? with
      | none =>
        have : zas w a j v = w := by unfold zas; rw [hw]
        rw [this]
      | some q =>
        obtain ⟨c, vs⟩ := q
        unfold zf zr
        rw [if_pos ha, if_pos ha, zas_get_eq hw, hw]
        dsimp only
        split
        · rw [List.getElem?_set]
          by_cases hk : j.toNatClampNeg = k % 100
          · rw [if_pos hk]
            by_cases hl : j.toNatClampNeg < vs.length
            · rw [if_pos hl, List.getElem?_eq_getElem (by omega)]; rfl
            · rw [if_neg hl, List.getElem?_eq_none (by omega)]
          · rw [if_neg hk]
        · rfl
    · unfold zf zr
      rw [if_neg ha, if_neg ha]
  · rw [zf_as1 h]
theorem Sh.some {w : zH} {a n : Nat} (h : Sh w) (ha : a < 65) (hk : (zsh a).1 = n / 100) (hl : n % 100 < (zsh a).2.1) : (zf w a n).isSome = true := by
  obtain ⟨vs, h1, h3, h4⟩ := h a ha
  unfold zf
  rw [zr_fix ha, h1]
  dsimp only
  rw [if_pos hk, List.getElem?_eq_getElem (by omega)]
  rfl
/-- the shape stays -/
theorem Sh.pf {w : zH} {a n : Nat} {x : Int32} (h : Sh w) (hp : a < 65 → zptr a (n % 100) = none ∧ (zsh a).1 < 200) : Sh (zpf w a n (.int x)) := by
  intro b hb
  obtain ⟨vs, h1, h3, h4⟩ := h b hb
  by_cases hab : a = b
  · subst hab
    refine ⟨_, zpf_get_eq h1, by rw [List.length_set]; exact h3, fun j v hj => ?_⟩
    rw [List.getElem?_set] at hj
    split at hj
    · rename_i e
      split at hj
      · cases hj
        subst e
        unfold zslot
        rw [(hp hb).1]
        dsimp only
        rw [if_neg (by have := (hp hb).2; omega)]
        rfl
      · cases hj
    · exact h4 j v hj
  · exact ⟨vs, by rw [zpf_get_ne hab]; exact h1, h3, h4⟩
theorem Sh.as {w : zH} {a : Nat} {j x : Int32} (h : Sh w) (hp : a < 65 → (zsh a).2.2 = [] ∧ (zsh a).1 < 200) : Sh (zas w a j (.int x)) := by
  intro b hb
  obtain ⟨vs, h1, h3, h4⟩ := h b hb
  by_cases hab : a = b
  · subst hab
    refine ⟨_, zas_get_eq h1, by rw [List.length_set]; exact h3, fun i v hj => ?_⟩
    rw [List.getElem?_set] at hj
    split at hj
    · split at hj
      · cases hj
        unfold zslot zptr
        rw [(hp hb).1]
        dsimp only [List.getD_nil]
        rw [if_neg (by have := (hp hb).2; omega)]
        rfl
      · cases hj
    · exact h4 i v hj
  · exact ⟨vs, by rw [zas_get_ne hab]; exact h1, h3, h4⟩
theorem Sh.push {w : zH} {q : Nat × List Value} (h : Sh w) : Sh (w ++ [q]) := by
  intro b hb
  obtain ⟨vs, h1, h3, h4⟩ := h b hb
  exact ⟨vs, by rw [List.getElem?_append_left (List.getElem?_eq_some_iff.mp h1).1]; exact h1, h3, h4⟩
theorem Sh.len {w : zH} (h : Sh w) : 65 ≤ w.length := by
  obtain ⟨vs, h1, -⟩ := h 64 (by omega)
  have := (List.getElem?_eq_some_iff.mp h1).1
  omega
theorem i_0 {w : zH} (h : Sh w) : zis w 0 11 := h.is (by decide) (by decide +kernel)
theorem f_0_1100 {w : zH} (h : Sh w) : zf w 0 1100 = some (.ref 1) := h.ptr (by decide) (by decide +kernel) (by decide +kernel) (by decide +kernel)
theorem f_0_1101 {w : zH} (h : Sh w) : zf w 0 1101 = some (.ref 2) := h.ptr (by decide) (by decide +kernel) (by decide +kernel) (by decide +kernel)
theorem f_0_1102 {w : zH} (h : Sh w) : zf w 0 1102 = some (.ref 4) := h.ptr (by decide) (by decide +kernel) (by decide +kernel) (by decide +kernel)
theorem f_0_1103 {w : zH} (h : Sh w) : zf w 0 1103 = some (.int (gi w 0 1103)) := h.int (by decide) (by decide +kernel) (by decide +kernel) (by decide +kernel) (by decide +kernel)
theorem f_0_1104 {w : zH} (h : Sh w) : zf w 0 1104 = some (.ref 5) := h.ptr (by decide) (by decide +kernel) (by decide +kernel) (by decide +kernel)
theorem f_0_1105 {w : zH} (h : Sh w) : zf w 0 1105 = some (.ref 7) := h.ptr (by decide) (by decide +kernel) (by decide +kernel) (by decide +kernel)
theorem f_0_1106 {w : zH} (h : Sh w) : zf w 0 1106 = some (.int (gi w 0 1106)) := h.int (by decide) (by decide +kernel) (by decide +kernel) (by decide +kernel) (by decide +kernel)
theorem f_0_1107 {w : zH} (h : Sh w) : zf w 0 1107 = some (.int (gi w 0 1107)) := h.int (by decide) (by decide +kernel) (by decide +kernel) (by decide +kernel) (by decide +kernel)
theorem f_0_1108 {w : zH} (h : Sh w) : zf w 0 1108 = some (.ref 8) := h.ptr (by decide) (by decide +kernel) (by decide +kernel) (by decide +kernel)
theorem f_0_1109 {w : zH} (h : Sh w) : zf w 0 1109 = some (.int (gi w 0 1109)) := h.int (by decide) (by decide +kernel) (by decide +kernel) (by decide +kernel) (by decide +kernel)
theorem f_0_1110 {w : zH} (h : Sh w) : zf w 0 1110 = some (.ref 9) := h.ptr (by decide) (by decide +kernel) (by decide +kernel) (by decide +kernel)
theorem f_0_1111 {w : zH} (h : Sh w) : zf w 0 1111 = some (.ref 12) := h.ptr (by decide) (by decide +kernel) (by decide +kernel) (by decide +kernel)
theorem f_0_1112 {w : zH} (h : Sh w) : zf w 0 1112 = some (.int (gi w 0 1112)) := h.int (by decide) (by decide +kernel) (by decide +kernel) (by decide +kernel) (by decide +kernel)
theorem f_0_1113 {w : zH} (h : Sh w) : zf w 0 1113 = some (.ref 13) := h.ptr (by decide) (by decide +kernel) (by decide +kernel) (by decide +kernel)
theorem f_0_1114 {w : zH} (h : Sh w) : zf w 0 1114 = some (.ref 14) := h.ptr (by decide) (by decide +kernel) (by decide +kernel) (by decide +kernel)
theorem f_0_1115 {w : zH} (h : Sh w) : zf w 0 1115 = some (.ref 15) := h.ptr (by decide) (by decide +kernel) (by decide +kernel) (by decide +kernel)
theorem f_0_1116 {w : zH} (h : Sh w) : zf w 0 1116 = some (.int (gi w 0 1116)) := h.int (by decide) (by decide +kernel) (by decide +kernel) (by decide +kernel) (by decide +kernel)
theorem f_0_1117 {w : zH} (h : Sh w) : zf w 0 1117 = some (.ref 18) := h.ptr (by decide) (by decide +kernel) (by decide +kernel) (by decide +kernel)
theorem f_0_1118 {w : zH} (h : Sh w) : zf w 0 1118 = some (.int (gi w 0 1118)) := h.int (by decide) (by decide +kernel) (by decide +kernel) (by decide +kernel) (by decide +kernel)
theorem f_0_1119 {w : zH} (h : Sh w) : zf w 0 1119 = some (.int (gi w 0 1119)) := h.int (by decide) (by decide +kernel) (by decide +kernel) (by decide +kernel) (by decide +kernel)
theorem a_1 {w : zH} (h : Sh w) (j : Int32) : zaa w 1 j = if 0 ≤ j ∧ j.toNatClampNeg < 8 then some (gr w 1 j.toNatClampNeg) else none := h.aa (by decide) (by decide +kernel)
theorem n_1 {w : zH} (h : Sh w) (j : Int32) : zin? w 1 208 j = (0 ≤ j ∧ j.toNatClampNeg < 8) := propext (h.in (by decide) (by decide +kernel))
theorem i_2 {w : zH} (h : Sh w) : zis w 2 3 := h.is (by decide) (by decide +kernel)
theorem f_2_300 {w : zH} (h : Sh w) : zf w 2 300 = some (.ref 3) := h.ptr (by decide) (by decide +kernel) (by decide +kernel) (by decide +kernel)
theorem f_2_301 {w : zH} (h : Sh w) : zf w 2 301 = some (.int (gi w 2 301)) := h.int (by decide) (by decide +kernel) (by decide +kernel) (by decide +kernel) (by decide +kernel)
theorem f_2_302 {w : zH} (h : Sh w) : zf w 2 302 = some (.int (gi w 2 302)) := h.int (by decide) (by decide +kernel) (by decide +kernel) (by decide +kernel) (by decide +kernel)
theorem a_3 {w : zH} (h : Sh w) (j : Int32) : zaa w 3 j = if 0 ≤ j ∧ j.toNatClampNeg < 30 then some (gr w 3 j.toNatClampNeg) else none := h.aa (by decide) (by decide +kernel)
theorem n_3 {w : zH} (h : Sh w) (j : Int32) : zin? w 3 205 j = (0 ≤ j ∧ j.toNatClampNeg < 30) := propext (h.in (by decide) (by decide +kernel))
theorem a_4 {w : zH} (h : Sh w) (j : Int32) : zaa w 4 j = if 0 ≤ j ∧ j.toNatClampNeg < 16 then some (gr w 4 j.toNatClampNeg) else none := h.aa (by decide) (by decide +kernel)
theorem n_4 {w : zH} (h : Sh w) (j : Int32) : zin? w 4 207 j = (0 ≤ j ∧ j.toNatClampNeg < 16) := propext (h.in (by decide) (by decide +kernel))
theorem i_5 {w : zH} (h : Sh w) : zis w 5 9 := h.is (by decide) (by decide +kernel)
theorem f_5_900 {w : zH} (h : Sh w) : zf w 5 900 = some (.ref 6) := h.ptr (by decide) (by decide +kernel) (by decide +kernel) (by decide +kernel)
theorem f_5_901 {w : zH} (h : Sh w) : zf w 5 901 = some (.int (gi w 5 901)) := h.int (by decide) (by decide +kernel) (by decide +kernel) (by decide +kernel) (by decide +kernel)
theorem f_5_902 {w : zH} (h : Sh w) : zf w 5 902 = some (.int (gi w 5 902)) := h.int (by decide) (by decide +kernel) (by decide +kernel) (by decide +kernel) (by decide +kernel)
theorem f_5_903 {w : zH} (h : Sh w) : zf w 5 903 = some (.int (gi w 5 903)) := h.int (by decide) (by decide +kernel) (by decide +kernel) (by decide +kernel) (by decide +kernel)
theorem f_5_904 {w : zH} (h : Sh w) : zf w 5 904 = some (.int (gi w 5 904)) := h.int (by decide) (by decide +kernel) (by decide +kernel) (by decide +kernel) (by decide +kernel)
theorem f_5_905 {w : zH} (h : Sh w) : zf w 5 905 = some (.int (gi w 5 905)) := h.int (by decide) (by decide +kernel) (by decide +kernel) (by decide +kernel) (by decide +kernel)
theorem f_5_906 {w : zH} (h : Sh w) : zf w 5 906 = some (.int (gi w 5 906)) := h.int (by decide) (by decide +kernel) (by decide +kernel) (by decide +kernel) (by decide +kernel)
theorem a_6 {w : zH} (h : Sh w) (j : Int32) : zai w 6 101 j = if 0 ≤ j ∧ j.toNatClampNeg < 500 then some (ga w 6 j.toNatClampNeg) else none := h.ai (by decide) (by decide +kernel) (by decide) (by decide +kernel)
theorem n_6 {w : zH} (h : Sh w) (j : Int32) : zin? w 6 101 j = (0 ≤ j ∧ j.toNatClampNeg < 500) := propext (h.in (by decide) (by decide +kernel))
theorem l_6 {w : zH} (h : Sh w) : zal w 6 = some 500 := h.al (by decide) (by decide +kernel)
theorem a_7 {w : zH} (h : Sh w) (j : Int32) : zaa w 7 j = if 0 ≤ j ∧ j.toNatClampNeg < 24 then some (gr w 7 j.toNatClampNeg) else none := h.aa (by decide) (by decide +kernel)
theorem n_7 {w : zH} (h : Sh w) (j : Int32) : zin? w 7 200 j = (0 ≤ j ∧ j.toNatClampNeg < 24) := propext (h.in (by decide) (by decide +kernel))
theorem a_8 {w : zH} (h : Sh w) (j : Int32) : zaa w 8 j = if 0 ≤ j ∧ j.toNatClampNeg < 10 then some (gr w 8 j.toNatClampNeg) else none := h.aa (by decide) (by decide +kernel)
theorem n_8 {w : zH} (h : Sh w) (j : Int32) : zin? w 8 204 j = (0 ≤ j ∧ j.toNatClampNeg < 10) := propext (h.in (by decide) (by decide +kernel))
theorem i_9 {w : zH} (h : Sh w) : zis w 9 6 := h.is (by decide) (by decide +kernel)
theorem f_9_600 {w : zH} (h : Sh w) : zf w 9 600 = some (.ref 10) := h.ptr (by decide) (by decide +kernel) (by decide +kernel) (by decide +kernel)
theorem f_9_601 {w : zH} (h : Sh w) : zf w 9 601 = some (.ref 11) := h.ptr (by decide) (by decide +kernel) (by decide +kernel) (by decide +kernel)
theorem f_9_602 {w : zH} (h : Sh w) : zf w 9 602 = some (.int (gi w 9 602)) := h.int (by decide) (by decide +kernel) (by decide +kernel) (by decide +kernel) (by decide +kernel)
theorem a_10 {w : zH} (h : Sh w) (j : Int32) : zai w 10 100 j = if 0 ≤ j ∧ j.toNatClampNeg < 8 then some (ga w 10 j.toNatClampNeg) else none := h.ai (by decide) (by decide +kernel) (by decide) (by decide +kernel)
theorem n_10 {w : zH} (h : Sh w) (j : Int32) : zin? w 10 100 j = (0 ≤ j ∧ j.toNatClampNeg < 8) := propext (h.in (by decide) (by decide +kernel))
theorem l_10 {w : zH} (h : Sh w) : zal w 10 = some 8 := h.al (by decide) (by decide +kernel)
theorem a_11 {w : zH} (h : Sh w) (j : Int32) : zai w 11 100 j = if 0 ≤ j ∧ j.toNatClampNeg < 256 then some (ga w 11 j.toNatClampNeg) else none := h.ai (by decide) (by decide +kernel) (by decide) (by decide +kernel)
theorem n_11 {w : zH} (h : Sh w) (j : Int32) : zin? w 11 100 j = (0 ≤ j ∧ j.toNatClampNeg < 256) := propext (h.in (by decide) (by decide +kernel))
theorem l_11 {w : zH} (h : Sh w) : zal w 11 = some 256 := h.al (by decide) (by decide +kernel)
theorem a_12 {w : zH} (h : Sh w) (j : Int32) : zaa w 12 j = if 0 ≤ j ∧ j.toNatClampNeg < 20 then some (gr w 12 j.toNatClampNeg) else none := h.aa (by decide) (by decide +kernel)
theorem n_12 {w : zH} (h : Sh w) (j : Int32) : zin? w 12 210 j = (0 ≤ j ∧ j.toNatClampNeg < 20) := propext (h.in (by decide) (by decide +kernel))
theorem a_13 {w : zH} (h : Sh w) (j : Int32) : zai w 13 100 j = if 0 ≤ j ∧ j.toNatClampNeg < 12 then some (ga w 13 j.toNatClampNeg) else none := h.ai (by decide) (by decide +kernel) (by decide) (by decide +kernel)
theorem n_13 {w : zH} (h : Sh w) (j : Int32) : zin? w 13 100 j = (0 ≤ j ∧ j.toNatClampNeg < 12) := propext (h.in (by decide) (by decide +kernel))
theorem l_13 {w : zH} (h : Sh w) : zal w 13 = some 12 := h.al (by decide) (by decide +kernel)
theorem a_14 {w : zH} (h : Sh w) (j : Int32) : zai w 14 100 j = if 0 ≤ j ∧ j.toNatClampNeg < 12 then some (ga w 14 j.toNatClampNeg) else none := h.ai (by decide) (by decide +kernel) (by decide) (by decide +kernel)
theorem n_14 {w : zH} (h : Sh w) (j : Int32) : zin? w 14 100 j = (0 ≤ j ∧ j.toNatClampNeg < 12) := propext (h.in (by decide) (by decide +kernel))
theorem l_14 {w : zH} (h : Sh w) : zal w 14 = some 12 := h.al (by decide) (by decide +kernel)
theorem i_15 {w : zH} (h : Sh w) : zis w 15 2 := h.is (by decide) (by decide +kernel)
theorem f_15_200 {w : zH} (h : Sh w) : zf w 15 200 = some (.ref 16) := h.ptr (by decide) (by decide +kernel) (by decide +kernel) (by decide +kernel)
theorem f_15_201 {w : zH} (h : Sh w) : zf w 15 201 = some (.ref 17) := h.ptr (by decide) (by decide +kernel) (by decide +kernel) (by decide +kernel)
theorem f_15_202 {w : zH} (h : Sh w) : zf w 15 202 = some (.int (gi w 15 202)) := h.int (by decide) (by decide +kernel) (by decide +kernel) (by decide +kernel) (by decide +kernel)
theorem a_16 {w : zH} (h : Sh w) (j : Int32) : zaa w 16 j = if 0 ≤ j ∧ j.toNatClampNeg < 16 then some (gr w 16 j.toNatClampNeg) else none := h.aa (by decide) (by decide +kernel)
theorem n_16 {w : zH} (h : Sh w) (j : Int32) : zin? w 16 201 j = (0 ≤ j ∧ j.toNatClampNeg < 16) := propext (h.in (by decide) (by decide +kernel))
theorem a_17 {w : zH} (h : Sh w) (j : Int32) : zai w 17 100 j = if 0 ≤ j ∧ j.toNatClampNeg < 12 then some (ga w 17 j.toNatClampNeg) else none := h.ai (by decide) (by decide +kernel) (by decide) (by decide +kernel)
theorem n_17 {w : zH} (h : Sh w) (j : Int32) : zin? w 17 100 j = (0 ≤ j ∧ j.toNatClampNeg < 12) := propext (h.in (by decide) (by decide +kernel))
theorem l_17 {w : zH} (h : Sh w) : zal w 17 = some 12 := h.al (by decide) (by decide +kernel)
theorem a_18 {w : zH} (h : Sh w) (j : Int32) : zai w 18 100 j = if 0 ≤ j ∧ j.toNatClampNeg < 16 then some (ga w 18 j.toNatClampNeg) else none := h.ai (by decide) (by decide +kernel) (by decide) (by decide +kernel)
theorem n_18 {w : zH} (h : Sh w) (j : Int32) : zin? w 18 100 j = (0 ≤ j ∧ j.toNatClampNeg < 16) := propext (h.in (by decide) (by decide +kernel))
theorem l_18 {w : zH} (h : Sh w) : zal w 18 = some 16 := h.al (by decide) (by decide +kernel)
theorem i_19 {w : zH} (h : Sh w) : zis w 19 8 := h.is (by decide) (by decide +kernel)
theorem f_19_800 {w : zH} (h : Sh w) : zf w 19 800 = some (.ref 20) := h.ptr (by decide) (by decide +kernel) (by decide +kernel) (by decide +kernel)
theorem f_19_801 {w : zH} (h : Sh w) : zf w 19 801 = some (.int (gi w 19 801)) := h.int (by decide) (by decide +kernel) (by decide +kernel) (by decide +kernel) (by decide +kernel)
theorem f_19_802 {w : zH} (h : Sh w) : zf w 19 802 = some (.int (gi w 19 802)) := h.int (by decide) (by decide +kernel) (by decide +kernel) (by decide +kernel) (by decide +kernel)
theorem f_19_803 {w : zH} (h : Sh w) : zf w 19 803 = some (.int (gi w 19 803)) := h.int (by decide) (by decide +kernel) (by decide +kernel) (by decide +kernel) (by decide +kernel)
theorem a_20 {w : zH} (h : Sh w) (j : Int32) : zai w 20 100 j = if 0 ≤ j ∧ j.toNatClampNeg < 100 then some (ga w 20 j.toNatClampNeg) else none := h.ai (by decide) (by decide +kernel) (by decide) (by decide +kernel)
theorem n_20 {w : zH} (h : Sh w) (j : Int32) : zin? w 20 100 j = (0 ≤ j ∧ j.toNatClampNeg < 100) := propext (h.in (by decide) (by decide +kernel))
theorem l_20 {w : zH} (h : Sh w) : zal w 20 = some 100 := h.al (by decide) (by decide +kernel)
theorem i_21 {w : zH} (h : Sh w) : zis w 21 8 := h.is (by decide) (by decide +kernel)
theorem f_21_800 {w : zH} (h : Sh w) : zf w 21 800 = some (.ref 22) := h.ptr (by decide) (by decide +kernel) (by decide +kernel) (by decide +kernel)
theorem f_21_801 {w : zH} (h : Sh w) : zf w 21 801 = some (.int (gi w 21 801)) := h.int (by decide) (by decide +kernel) (by decide +kernel) (by decide +kernel) (by decide +kernel)
theorem f_21_802 {w : zH} (h : Sh w) : zf w 21 802 = some (.int (gi w 21 802)) := h.int (by decide) (by decide +kernel) (by decide +kernel) (by decide +kernel) (by decide +kernel)
theorem f_21_803 {w : zH} (h : Sh w) : zf w 21 803 = some (.int (gi w 21 803)) := h.int (by decide) (by decide +kernel) (by decide +kernel) (by decide +kernel) (by decide +kernel)
theorem a_22 {w : zH} (h : Sh w) (j : Int32) : zai w 22 100 j = if 0 ≤ j ∧ j.toNatClampNeg < 100 then some (ga w 22 j.toNatClampNeg) else none := h.ai (by decide) (by decide +kernel) (by decide) (by decide +kernel)
theorem n_22 {w : zH} (h : Sh w) (j : Int32) : zin? w 22 100 j = (0 ≤ j ∧ j.toNatClampNeg < 100) := propext (h.in (by decide) (by decide +kernel))
theorem l_22 {w : zH} (h : Sh w) : zal w 22 = some 100 := h.al (by decide) (by decide +kernel)
theorem i_23 {w : zH} (h : Sh w) : zis w 23 8 := h.is (by decide) (by decide +kernel)
theorem f_23_800 {w : zH} (h : Sh w) : zf w 23 800 = some (.ref 24) := h.ptr (by decide) (by decide +kernel) (by decide +kernel) (by decide +kernel)
theorem f_23_801 {w : zH} (h : Sh w) : zf w 23 801 = some (.int (gi w 23 801)) := h.int (by decide) (by decide +kernel) (by decide +kernel) (by decide +kernel) (by decide +kernel)
theorem f_23_802 {w : zH} (h : Sh w) : zf w 23 802 = some (.int (gi w 23 802)) := h.int (by decide) (by decide +kernel) (by decide +kernel) (by decide +kernel) (by decide +kernel)
theorem f_23_803 {w : zH} (h : Sh w) : zf w 23 803 = some (.int (gi w 23 803)) := h.int (by decide) (by decide +kernel) (by decide +kernel) (by decide +kernel) (by decide +kernel)
theorem a_24 {w : zH} (h : Sh w) (j : Int32) : zai w 24 100 j = if 0 ≤ j ∧ j.toNatClampNeg < 100 then some (ga w 24 j.toNatClampNeg) else none := h.ai (by decide) (by decide +kernel) (by decide) (by decide +kernel)
theorem n_24 {w : zH} (h : Sh w) (j : Int32) : zin? w 24 100 j = (0 ≤ j ∧ j.toNatClampNeg < 100) := propext (h.in (by decide) (by decide +kernel))
theorem l_24 {w : zH} (h : Sh w) : zal w 24 = some 100 := h.al (by decide) (by decide +kernel)
theorem i_25 {w : zH} (h : Sh w) : zis w 25 8 := h.is (by decide) (by decide +kernel)
theorem f_25_800 {w : zH} (h : Sh w) : zf w 25 800 = some (.ref 26) := h.ptr (by decide) (by decide +kernel) (by decide +kernel) (by decide +kernel)
theorem f_25_801 {w : zH} (h : Sh w) : zf w 25 801 = some (.int (gi w 25 801)) := h.int (by decide) (by decide +kernel) (by decide +kernel) (by decide +kernel) (by decide +kernel)
theorem f_25_802 {w : zH} (h : Sh w) : zf w 25 802 = some (.int (gi w 25 802)) := h.int (by decide) (by decide +kernel) (by decide +kernel) (by decide +kernel) (by decide +kernel)
theorem f_25_803 {w : zH} (h : Sh w) : zf w 25 803 = some (.int (gi w 25 803)) := h.int (by decide) (by decide +kernel) (by decide +kernel) (by decide +kernel) (by decide +kernel)
theorem a_26 {w : zH} (h : Sh w) (j : Int32) : zai w 26 100 j = if 0 ≤ j ∧ j.toNatClampNeg < 100 then some (ga w 26 j.toNatClampNeg) else none := h.ai (by decide) (by decide +kernel) (by decide) (by decide +kernel)
theorem n_26 {w : zH} (h : Sh w) (j : Int32) : zin? w 26 100 j = (0 ≤ j ∧ j.toNatClampNeg < 100) := propext (h.in (by decide) (by decide +kernel))
theorem l_26 {w : zH} (h : Sh w) : zal w 26 = some 100 := h.al (by decide) (by decide +kernel)
theorem i_27 {w : zH} (h : Sh w) : zis w 27 8 := h.is (by decide) (by decide +kernel)
theorem f_27_800 {w : zH} (h : Sh w) : zf w 27 800 = some (.ref 28) := h.ptr (by decide) (by decide +kernel) (by decide +kernel) (by decide +kernel)
theorem f_27_801 {w : zH} (h : Sh w) : zf w 27 801 = some (.int (gi w 27 801)) := h.int (by decide) (by decide +kernel) (by decide +kernel) (by decide +kernel) (by decide +kernel)
theorem f_27_802 {w : zH} (h : Sh w) : zf w 27 802 = some (.int (gi w 27 802)) := h.int (by decide) (by decide +kernel) (by decide +kernel) (by decide +kernel) (by decide +kernel)
theorem f_27_803 {w : zH} (h : Sh w) : zf w 27 803 = some (.int (gi w 27 803)) := h.int (by decide) (by decide +kernel) (by decide +kernel) (by decide +kernel) (by decide +kernel)
theorem a_28 {w : zH} (h : Sh w) (j : Int32) : zai w 28 100 j = if 0 ≤ j ∧ j.toNatClampNeg < 100 then some (ga w 28 j.toNatClampNeg) else none := h.ai (by decide) (by decide +kernel) (by decide) (by decide +kernel)
theorem n_28 {w : zH} (h : Sh w) (j : Int32) : zin? w 28 100 j = (0 ≤ j ∧ j.toNatClampNeg < 100) := propext (h.in (by decide) (by decide +kernel))
theorem l_28 {w : zH} (h : Sh w) : zal w 28 = some 100 := h.al (by decide) (by decide +kernel)
theorem i_29 {w : zH} (h : Sh w) : zis w 29 8 := h.is (by decide) (by decide +kernel)
theorem f_29_800 {w : zH} (h : Sh w) : zf w 29 800 = some (.ref 30) := h.ptr (by decide) (by decide +kernel) (by decide +kernel) (by decide +kernel)
theorem f_29_801 {w : zH} (h : Sh w) : zf w 29 801 = some (.int (gi w 29 801)) := h.int (by decide) (by decide +kernel) (by decide +kernel) (by decide +kernel) (by decide +kernel)
theorem f_29_802 {w : zH} (h : Sh w) : zf w 29 802 = some (.int (gi w 29 802)) := h.int (by decide) (by decide +kernel) (by decide +kernel) (by decide +kernel) (by decide +kernel)
theorem f_29_803 {w : zH} (h : Sh w) : zf w 29 803 = some (.int (gi w 29 803)) := h.int (by decide) (by decide +kernel) (by decide +kernel) (by decide +kernel) (by decide +kernel)
theorem a_30 {w : zH} (h : Sh w) (j : Int32) : zai w 30 100 j = if 0 ≤ j ∧ j.toNatClampNeg < 100 then some (ga w 30 j.toNatClampNeg) else none := h.ai (by decide) (by decide +kernel) (by decide) (by decide +kernel)
theorem n_30 {w : zH} (h : Sh w) (j : Int32) : zin? w 30 100 j = (0 ≤ j ∧ j.toNatClampNeg < 100) := propext (h.in (by decide) (by decide +kernel))
theorem l_30 {w : zH} (h : Sh w) : zal w 30 = some 100 := h.al (by decide) (by decide +kernel)
theorem i_31 {w : zH} (h : Sh w) : zis w 31 8 := h.is (by decide) (by decide +kernel)
theorem f_31_800 {w : zH} (h : Sh w) : zf w 31 800 = some (.ref 32) := h.ptr (by decide) (by decide +kernel) (by decide +kernel) (by decide +kernel)
theorem f_31_801 {w : zH} (h : Sh w) : zf w 31 801 = some (.int (gi w 31 801)) := h.int (by decide) (by decide +kernel) (by decide +kernel) (by decide +kernel) (by decide +kernel)
theorem f_31_802 {w : zH} (h : Sh w) : zf w 31 802 = some (.int (gi w 31 802)) := h.int (by decide) (by decide +kernel) (by decide +kernel) (by decide +kernel) (by decide +kernel)
theorem f_31_803 {w : zH} (h : Sh w) : zf w 31 803 = some (.int (gi w 31 803)) := h.int (by decide) (by decide +kernel) (by decide +kernel) (by decide +kernel) (by decide +kernel)
theorem a_32 {w : zH} (h : Sh w) (j : Int32) : zai w 32 100 j = if 0 ≤ j ∧ j.toNatClampNeg < 100 then some (ga w 32 j.toNatClampNeg) else none := h.ai (by decide) (by decide +kernel) (by decide) (by decide +kernel)
theorem n_32 {w : zH} (h : Sh w) (j : Int32) : zin? w 32 100 j = (0 ≤ j ∧ j.toNatClampNeg < 100) := propext (h.in (by decide) (by decide +kernel))
theorem l_32 {w : zH} (h : Sh w) : zal w 32 = some 100 := h.al (by decide) (by decide +kernel)
theorem i_33 {w : zH} (h : Sh w) : zis w 33 8 := h.is (by decide) (by decide +kernel)
theorem f_33_800 {w : zH} (h : Sh w) : zf w 33 800 = some (.ref 34) := h.ptr (by decide) (by decide +kernel) (by decide +kernel) (by decide +kernel)
theorem f_33_801 {w : zH} (h : Sh w) : zf w 33 801 = some (.int (gi w 33 801)) := h.int (by decide) (by decide +kernel) (by decide +kernel) (by decide +kernel) (by decide +kernel)
theorem f_33_802 {w : zH} (h : Sh w) : zf w 33 802 = some (.int (gi w 33 802)) := h.int (by decide) (by decide +kernel) (by decide +kernel) (by decide +kernel) (by decide +kernel)
theorem f_33_803 {w : zH} (h : Sh w) : zf w 33 803 = some (.int (gi w 33 803)) := h.int (by decide) (by decide +kernel) (by decide +kernel) (by decide +kernel) (by decide +kernel)
theorem a_34 {w : zH} (h : Sh w) (j : Int32) : zai w 34 100 j = if 0 ≤ j ∧ j.toNatClampNeg < 100 then some (ga w 34 j.toNatClampNeg) else none := h.ai (by decide) (by decide +kernel) (by decide) (by decide +kernel)
theorem n_34 {w : zH} (h : Sh w) (j : Int32) : zin? w 34 100 j = (0 ≤ j ∧ j.toNatClampNeg < 100) := propext (h.in (by decide) (by decide +kernel))
theorem l_34 {w : zH} (h : Sh w) : zal w 34 = some 100 := h.al (by decide) (by decide +kernel)
theorem i_35 {w : zH} (h : Sh w) : zis w 35 12 := h.is (by decide) (by decide +kernel)
theorem f_35_1200 {w : zH} (h : Sh w) : zf w 35 1200 = some (.int (gi w 35 1200)) := h.int (by decide) (by decide +kernel) (by decide +kernel) (by decide +kernel) (by decide +kernel)
theorem f_35_1201 {w : zH} (h : Sh w) : zf w 35 1201 = some (.int (gi w 35 1201)) := h.int (by decide) (by decide +kernel) (by decide +kernel) (by decide +kernel) (by decide +kernel)
theorem f_35_1202 {w : zH} (h : Sh w) : zf w 35 1202 = some (.ref 36) := h.ptr (by decide) (by decide +kernel) (by decide +kernel) (by decide +kernel)
theorem f_35_1203 {w : zH} (h : Sh w) : zf w 35 1203 = some (.ref 37) := h.ptr (by decide) (by decide +kernel) (by decide +kernel) (by decide +kernel)
theorem f_35_1204 {w : zH} (h : Sh w) : zf w 35 1204 = some (.ref 38) := h.ptr (by decide) (by decide +kernel) (by decide +kernel) (by decide +kernel)
theorem f_35_1205 {w : zH} (h : Sh w) : zf w 35 1205 = some (.int (gi w 35 1205)) := h.int (by decide) (by decide +kernel) (by decide +kernel) (by decide +kernel) (by decide +kernel)
theorem f_35_1206 {w : zH} (h : Sh w) : zf w 35 1206 = some (.int (gi w 35 1206)) := h.int (by decide) (by decide +kernel) (by decide +kernel) (by decide +kernel) (by decide +kernel)
theorem f_35_1207 {w : zH} (h : Sh w) : zf w 35 1207 = some (.ref 39) := h.ptr (by decide) (by decide +kernel) (by decide +kernel) (by decide +kernel)
theorem f_35_1208 {w : zH} (h : Sh w) : zf w 35 1208 = some (.ref 40) := h.ptr (by decide) (by decide +kernel) (by decide +kernel) (by decide +kernel)
theorem f_35_1209 {w : zH} (h : Sh w) : zf w 35 1209 = some (.ref 41) := h.ptr (by decide) (by decide +kernel) (by decide +kernel) (by decide +kernel)
theorem f_35_1210 {w : zH} (h : Sh w) : zf w 35 1210 = some (.ref 42) := h.ptr (by decide) (by decide +kernel) (by decide +kernel) (by decide +kernel)
theorem f_35_1211 {w : zH} (h : Sh w) : zf w 35 1211 = some (.int (gi w 35 1211)) := h.int (by decide) (by decide +kernel) (by decide +kernel) (by decide +kernel) (by decide +kernel)
theorem f_35_1212 {w : zH} (h : Sh w) : zf w 35 1212 = some (.ref 43) := h.ptr (by decide) (by decide +kernel) (by decide +kernel) (by decide +kernel)
theorem f_35_1213 {w : zH} (h : Sh w) : zf w 35 1213 = some (.ref 44) := h.ptr (by decide) (by decide +kernel) (by decide +kernel) (by decide +kernel)
theorem f_35_1214 {w : zH} (h : Sh w) : zf w 35 1214 = some (.ref 45) := h.ptr (by decide) (by decide +kernel) (by decide +kernel) (by decide +kernel)
theorem f_35_1215 {w : zH} (h : Sh w) : zf w 35 1215 = some (.ref 46) := h.ptr (by decide) (by decide +kernel) (by decide +kernel) (by decide +kernel)
theorem f_35_1216 {w : zH} (h : Sh w) : zf w 35 1216 = some (.int (gi w 35 1216)) := h.int (by decide) (by decide +kernel) (by decide +kernel) (by decide +kernel) (by decide +kernel)
theorem f_35_1217 {w : zH} (h : Sh w) : zf w 35 1217 = some (.int (gi w 35 1217)) := h.int (by decide) (by decide +kernel) (by decide +kernel) (by decide +kernel) (by decide +kernel)
theorem f_35_1218 {w : zH} (h : Sh w) : zf w 35 1218 = some (.ref 47) := h.ptr (by decide) (by decide +kernel) (by decide +kernel) (by decide +kernel)
theorem f_35_1219 {w : zH} (h : Sh w) : zf w 35 1219 = some (.int (gi w 35 1219)) := h.int (by decide) (by decide +kernel) (by decide +kernel) (by decide +kernel) (by decide +kernel)
theorem f_35_1220 {w : zH} (h : Sh w) : zf w 35 1220 = some (.ref 48) := h.ptr (by decide) (by decide +kernel) (by decide +kernel) (by decide +kernel)
theorem f_35_1221 {w : zH} (h : Sh w) : zf w 35 1221 = some (.int (gi w 35 1221)) := h.int (by decide) (by decide +kernel) (by decide +kernel) (by decide +kernel) (by decide +kernel)
theorem f_35_1222 {w : zH} (h : Sh w) : zf w 35 1222 = some (.int (gi w 35 1222)) := h.int (by decide) (by decide +kernel) (by decide +kernel) (by decide +kernel) (by decide +kernel)
theorem f_35_1223 {w : zH} (h : Sh w) : zf w 35 1223 = some (.int (gi w 35 1223)) := h.int (by decide) (by decide +kernel) (by decide +kernel) (by decide +kernel) (by decide +kernel)
theorem f_35_1224 {w : zH} (h : Sh w) : zf w 35 1224 = some (.int (gi w 35 1224)) := h.int (by decide) (by decide +kernel) (by decide +kernel) (by decide +kernel) (by decide +kernel)
theorem f_35_1225 {w : zH} (h : Sh w) : zf w 35 1225 = some (.int (gi w 35 1225)) := h.int (by decide) (by decide +kernel) (by decide +kernel) (by decide +kernel) (by decide +kernel)
theorem f_35_1226 {w : zH} (h : Sh w) : zf w 35 1226 = some (.int (gi w 35 1226)) := h.int (by decide) (by decide +kernel) (by decide +kernel) (by decide +kernel) (by decide +kernel)
theorem f_35_1227 {w : zH} (h : Sh w) : zf w 35 1227 = some (.int (gi w 35 1227)) := h.int (by decide) (by decide +kernel) (by decide +kernel) (by decide +kernel) (by decide +kernel)
theorem f_35_1228 {w : zH} (h : Sh w) : zf w 35 1228 = some (.int (gi w 35 1228)) := h.int (by decide) (by decide +kernel) (by decide +kernel) (by decide +kernel) (by decide +kernel)
theorem f_35_1229 {w : zH} (h : Sh w) : zf w 35 1229 = some (.int (gi w 35 1229)) := h.int (by decide) (by decide +kernel) (by decide +kernel) (by decide +kernel) (by decide +kernel)
theorem f_35_1230 {w : zH} (h : Sh w) : zf w 35 1230 = some (.int (gi w 35 1230)) := h.int (by decide) (by decide +kernel) (by decide +kernel) (by decide +kernel) (by decide +kernel)
theorem f_35_1231 {w : zH} (h : Sh w) : zf w 35 1231 = some (.ref 49) := h.ptr (by decide) (by decide +kernel) (by decide +kernel) (by decide +kernel)
theorem f_35_1232 {w : zH} (h : Sh w) : zf w 35 1232 = some (.ref 50) := h.ptr (by decide) (by decide +kernel) (by decide +kernel) (by decide +kernel)
theorem f_35_1233 {w : zH} (h : Sh w) : zf w 35 1233 = some (.ref 51) := h.ptr (by decide) (by decide +kernel) (by decide +kernel) (by decide +kernel)
theorem f_35_1234 {w : zH} (h : Sh w) : zf w 35 1234 = some (.ref 52) := h.ptr (by decide) (by decide +kernel) (by decide +kernel) (by decide +kernel)
theorem f_35_1235 {w : zH} (h : Sh w) : zf w 35 1235 = some (.ref 53) := h.ptr (by decide) (by decide +kernel) (by decide +kernel) (by decide +kernel)
theorem f_35_1236 {w : zH} (h : Sh w) : zf w 35 1236 = some (.ref 54) := h.ptr (by decide) (by decide +kernel) (by decide +kernel) (by decide +kernel)
theorem f_35_1237 {w : zH} (h : Sh w) : zf w 35 1237 = some (.int (gi w 35 1237)) := h.int (by decide) (by decide +kernel) (by decide +kernel) (by decide +kernel) (by decide +kernel)
theorem f_35_1238 {w : zH} (h : Sh w) : zf w 35 1238 = some (.ref 55) := h.ptr (by decide) (by decide +kernel) (by decide +kernel) (by decide +kernel)
theorem f_35_1239 {w : zH} (h : Sh w) : zf w 35 1239 = some (.ref 56) := h.ptr (by decide) (by decide +kernel) (by decide +kernel) (by decide +kernel)
theorem f_35_1240 {w : zH} (h : Sh w) : zf w 35 1240 = some (.int (gi w 35 1240)) := h.int (by decide) (by decide +kernel) (by decide +kernel) (by decide +kernel) (by decide +kernel)
theorem f_35_1241 {w : zH} (h : Sh w) : zf w 35 1241 = some (.ref 57) := h.ptr (by decide) (by decide +kernel) (by decide +kernel) (by decide +kernel)
theorem f_35_1242 {w : zH} (h : Sh w) : zf w 35 1242 = some (.ref 58) := h.ptr (by decide) (by decide +kernel) (by decide +kernel) (by decide +kernel)
theorem f_35_1243 {w : zH} (h : Sh w) : zf w 35 1243 = some (.ref 59) := h.ptr (by decide) (by decide +kernel) (by decide +kernel) (by decide +kernel)
theorem f_35_1244 {w : zH} (h : Sh w) : zf w 35 1244 = some (.int (gi w 35 1244)) := h.int (by decide) (by decide +kernel) (by decide +kernel) (by decide +kernel) (by decide +kernel)
theorem f_35_1245 {w : zH} (h : Sh w) : zf w 35 1245 = some (.ref 60) := h.ptr (by decide) (by decide +kernel) (by decide +kernel) (by decide +kernel)
theorem f_35_1246 {w : zH} (h : Sh w) : zf w 35 1246 = some (.ref 61) := h.ptr (by decide) (by decide +kernel) (by decide +kernel) (by decide +kernel)
theorem f_35_1247 {w : zH} (h : Sh w) : zf w 35 1247 = some (.ref 62) := h.ptr (by decide) (by decide +kernel) (by decide +kernel) (by decide +kernel)
theorem f_35_1248 {w : zH} (h : Sh w) : zf w 35 1248 = some (.ref 63) := h.ptr (by decide) (by decide +kernel) (by decide +kernel) (by decide +kernel)
theorem f_35_1249 {w : zH} (h : Sh w) : zf w 35 1249 = some (.ref 64) := h.ptr (by decide) (by decide +kernel) (by decide +kernel) (by decide +kernel)
theorem f_35_1250 {w : zH} (h : Sh w) : zf w 35 1250 = some (.int (gi w 35 1250)) := h.int (by decide) (by decide +kernel) (by decide +kernel) (by decide +kernel) (by decide +kernel)
theorem a_36 {w : zH} (h : Sh w) (j : Int32) : zai w 36 100 j = if 0 ≤ j ∧ j.toNatClampNeg < 8 then some (ga w 36 j.toNatClampNeg) else none := h.ai (by decide) (by decide +kernel) (by decide) (by decide +kernel)
theorem n_36 {w : zH} (h : Sh w) (j : Int32) : zin? w 36 100 j = (0 ≤ j ∧ j.toNatClampNeg < 8) := propext (h.in (by decide) (by decide +kernel))
theorem l_36 {w : zH} (h : Sh w) : zal w 36 = some 8 := h.al (by decide) (by decide +kernel)
theorem a_37 {w : zH} (h : Sh w) (j : Int32) : zai w 37 100 j = if 0 ≤ j ∧ j.toNatClampNeg < 8 then some (ga w 37 j.toNatClampNeg) else none := h.ai (by decide) (by decide +kernel) (by decide) (by decide +kernel)
theorem n_37 {w : zH} (h : Sh w) (j : Int32) : zin? w 37 100 j = (0 ≤ j ∧ j.toNatClampNeg < 8) := propext (h.in (by decide) (by decide +kernel))
theorem l_37 {w : zH} (h : Sh w) : zal w 37 = some 8 := h.al (by decide) (by decide +kernel)
theorem a_38 {w : zH} (h : Sh w) (j : Int32) : zai w 38 100 j = if 0 ≤ j ∧ j.toNatClampNeg < 800 then some (ga w 38 j.toNatClampNeg) else none := h.ai (by decide) (by decide +kernel) (by decide) (by decide +kernel)
theorem n_38 {w : zH} (h : Sh w) (j : Int32) : zin? w 38 100 j = (0 ≤ j ∧ j.toNatClampNeg < 800) := propext (h.in (by decide) (by decide +kernel))
theorem l_38 {w : zH} (h : Sh w) : zal w 38 = some 800 := h.al (by decide) (by decide +kernel)
theorem a_39 {w : zH} (h : Sh w) (j : Int32) : zai w 39 100 j = if 0 ≤ j ∧ j.toNatClampNeg < 30 then some (ga w 39 j.toNatClampNeg) else none := h.ai (by decide) (by decide +kernel) (by decide) (by decide +kernel)
theorem n_39 {w : zH} (h : Sh w) (j : Int32) : zin? w 39 100 j = (0 ≤ j ∧ j.toNatClampNeg < 30) := propext (h.in (by decide) (by decide +kernel))
theorem l_39 {w : zH} (h : Sh w) : zal w 39 = some 30 := h.al (by decide) (by decide +kernel)
theorem a_40 {w : zH} (h : Sh w) (j : Int32) : zai w 40 100 j = if 0 ≤ j ∧ j.toNatClampNeg < 30 then some (ga w 40 j.toNatClampNeg) else none := h.ai (by decide) (by decide +kernel) (by decide) (by decide +kernel)
theorem n_40 {w : zH} (h : Sh w) (j : Int32) : zin? w 40 100 j = (0 ≤ j ∧ j.toNatClampNeg < 30) := propext (h.in (by decide) (by decide +kernel))
theorem l_40 {w : zH} (h : Sh w) : zal w 40 = some 30 := h.al (by decide) (by decide +kernel)
theorem a_41 {w : zH} (h : Sh w) (j : Int32) : zai w 41 100 j = if 0 ≤ j ∧ j.toNatClampNeg < 30 then some (ga w 41 j.toNatClampNeg) else none := h.ai (by decide) (by decide +kernel) (by decide) (by decide +kernel)
theorem n_41 {w : zH} (h : Sh w) (j : Int32) : zin? w 41 100 j = (0 ≤ j ∧ j.toNatClampNeg < 30) := propext (h.in (by decide) (by decide +kernel))
theorem l_41 {w : zH} (h : Sh w) : zal w 41 = some 30 := h.al (by decide) (by decide +kernel)
theorem a_42 {w : zH} (h : Sh w) (j : Int32) : zai w 42 100 j = if 0 ≤ j ∧ j.toNatClampNeg < 30 then some (ga w 42 j.toNatClampNeg) else none := h.ai (by decide) (by decide +kernel) (by decide) (by decide +kernel)
theorem n_42 {w : zH} (h : Sh w) (j : Int32) : zin? w 42 100 j = (0 ≤ j ∧ j.toNatClampNeg < 30) := propext (h.in (by decide) (by decide +kernel))
theorem l_42 {w : zH} (h : Sh w) : zal w 42 = some 30 := h.al (by decide) (by decide +kernel)
theorem a_43 {w : zH} (h : Sh w) (j : Int32) : zai w 43 100 j = if 0 ≤ j ∧ j.toNatClampNeg < 16 then some (ga w 43 j.toNatClampNeg) else none := h.ai (by decide) (by decide +kernel) (by decide) (by decide +kernel)
theorem n_43 {w : zH} (h : Sh w) (j : Int32) : zin? w 43 100 j = (0 ≤ j ∧ j.toNatClampNeg < 16) := propext (h.in (by decide) (by decide +kernel))
theorem l_43 {w : zH} (h : Sh w) : zal w 43 = some 16 := h.al (by decide) (by decide +kernel)
theorem a_44 {w : zH} (h : Sh w) (j : Int32) : zai w 44 100 j = if 0 ≤ j ∧ j.toNatClampNeg < 16 then some (ga w 44 j.toNatClampNeg) else none := h.ai (by decide) (by decide +kernel) (by decide) (by decide +kernel)
theorem n_44 {w : zH} (h : Sh w) (j : Int32) : zin? w 44 100 j = (0 ≤ j ∧ j.toNatClampNeg < 16) := propext (h.in (by decide) (by decide +kernel))
theorem l_44 {w : zH} (h : Sh w) : zal w 44 = some 16 := h.al (by decide) (by decide +kernel)
theorem a_45 {w : zH} (h : Sh w) (j : Int32) : zai w 45 100 j = if 0 ≤ j ∧ j.toNatClampNeg < 16 then some (ga w 45 j.toNatClampNeg) else none := h.ai (by decide) (by decide +kernel) (by decide) (by decide +kernel)
theorem n_45 {w : zH} (h : Sh w) (j : Int32) : zin? w 45 100 j = (0 ≤ j ∧ j.toNatClampNeg < 16) := propext (h.in (by decide) (by decide +kernel))
theorem l_45 {w : zH} (h : Sh w) : zal w 45 = some 16 := h.al (by decide) (by decide +kernel)
theorem a_46 {w : zH} (h : Sh w) (j : Int32) : zai w 46 100 j = if 0 ≤ j ∧ j.toNatClampNeg < 16 then some (ga w 46 j.toNatClampNeg) else none := h.ai (by decide) (by decide +kernel) (by decide) (by decide +kernel)
theorem n_46 {w : zH} (h : Sh w) (j : Int32) : zin? w 46 100 j = (0 ≤ j ∧ j.toNatClampNeg < 16) := propext (h.in (by decide) (by decide +kernel))
theorem l_46 {w : zH} (h : Sh w) : zal w 46 = some 16 := h.al (by decide) (by decide +kernel)
theorem a_47 {w : zH} (h : Sh w) (j : Int32) : zai w 47 100 j = if 0 ≤ j ∧ j.toNatClampNeg < 144 then some (ga w 47 j.toNatClampNeg) else none := h.ai (by decide) (by decide +kernel) (by decide) (by decide +kernel)
theorem n_47 {w : zH} (h : Sh w) (j : Int32) : zin? w 47 100 j = (0 ≤ j ∧ j.toNatClampNeg < 144) := propext (h.in (by decide) (by decide +kernel))
theorem l_47 {w : zH} (h : Sh w) : zal w 47 = some 144 := h.al (by decide) (by decide +kernel)
theorem a_48 {w : zH} (h : Sh w) (j : Int32) : zai w 48 100 j = if 0 ≤ j ∧ j.toNatClampNeg < 500 then some (ga w 48 j.toNatClampNeg) else none := h.ai (by decide) (by decide +kernel) (by decide) (by decide +kernel)
theorem n_48 {w : zH} (h : Sh w) (j : Int32) : zin? w 48 100 j = (0 ≤ j ∧ j.toNatClampNeg < 500) := propext (h.in (by decide) (by decide +kernel))
theorem l_48 {w : zH} (h : Sh w) : zal w 48 = some 500 := h.al (by decide) (by decide +kernel)
theorem a_49 {w : zH} (h : Sh w) (j : Int32) : zai w 49 100 j = if 0 ≤ j ∧ j.toNatClampNeg < 10 then some (ga w 49 j.toNatClampNeg) else none := h.ai (by decide) (by decide +kernel) (by decide) (by decide +kernel)
theorem n_49 {w : zH} (h : Sh w) (j : Int32) : zin? w 49 100 j = (0 ≤ j ∧ j.toNatClampNeg < 10) := propext (h.in (by decide) (by decide +kernel))
theorem l_49 {w : zH} (h : Sh w) : zal w 49 = some 10 := h.al (by decide) (by decide +kernel)
theorem a_50 {w : zH} (h : Sh w) (j : Int32) : zai w 50 100 j = if 0 ≤ j ∧ j.toNatClampNeg < 10 then some (ga w 50 j.toNatClampNeg) else none := h.ai (by decide) (by decide +kernel) (by decide) (by decide +kernel)
theorem n_50 {w : zH} (h : Sh w) (j : Int32) : zin? w 50 100 j = (0 ≤ j ∧ j.toNatClampNeg < 10) := propext (h.in (by decide) (by decide +kernel))
theorem l_50 {w : zH} (h : Sh w) : zal w 50 = some 10 := h.al (by decide) (by decide +kernel)
theorem a_51 {w : zH} (h : Sh w) (j : Int32) : zai w 51 100 j = if 0 ≤ j ∧ j.toNatClampNeg < 10 then some (ga w 51 j.toNatClampNeg) else none := h.ai (by decide) (by decide +kernel) (by decide) (by decide +kernel)
theorem n_51 {w : zH} (h : Sh w) (j : Int32) : zin? w 51 100 j = (0 ≤ j ∧ j.toNatClampNeg < 10) := propext (h.in (by decide) (by decide +kernel))
theorem l_51 {w : zH} (h : Sh w) : zal w 51 = some 10 := h.al (by decide) (by decide +kernel)
theorem a_52 {w : zH} (h : Sh w) (j : Int32) : zai w 52 100 j = if 0 ≤ j ∧ j.toNatClampNeg < 10 then some (ga w 52 j.toNatClampNeg) else none := h.ai (by decide) (by decide +kernel) (by decide) (by decide +kernel)
theorem n_52 {w : zH} (h : Sh w) (j : Int32) : zin? w 52 100 j = (0 ≤ j ∧ j.toNatClampNeg < 10) := propext (h.in (by decide) (by decide +kernel))
theorem l_52 {w : zH} (h : Sh w) : zal w 52 = some 10 := h.al (by decide) (by decide +kernel)
theorem a_53 {w : zH} (h : Sh w) (j : Int32) : zai w 53 100 j = if 0 ≤ j ∧ j.toNatClampNeg < 10 then some (ga w 53 j.toNatClampNeg) else none := h.ai (by decide) (by decide +kernel) (by decide) (by decide +kernel)
theorem n_53 {w : zH} (h : Sh w) (j : Int32) : zin? w 53 100 j = (0 ≤ j ∧ j.toNatClampNeg < 10) := propext (h.in (by decide) (by decide +kernel))
theorem l_53 {w : zH} (h : Sh w) : zal w 53 = some 10 := h.al (by decide) (by decide +kernel)
theorem a_54 {w : zH} (h : Sh w) (j : Int32) : zai w 54 100 j = if 0 ≤ j ∧ j.toNatClampNeg < 80 then some (ga w 54 j.toNatClampNeg) else none := h.ai (by decide) (by decide +kernel) (by decide) (by decide +kernel)
theorem n_54 {w : zH} (h : Sh w) (j : Int32) : zin? w 54 100 j = (0 ≤ j ∧ j.toNatClampNeg < 80) := propext (h.in (by decide) (by decide +kernel))
theorem l_54 {w : zH} (h : Sh w) : zal w 54 = some 80 := h.al (by decide) (by decide +kernel)
theorem a_55 {w : zH} (h : Sh w) (j : Int32) : zai w 55 100 j = if 0 ≤ j ∧ j.toNatClampNeg < 8 then some (ga w 55 j.toNatClampNeg) else none := h.ai (by decide) (by decide +kernel) (by decide) (by decide +kernel)
theorem n_55 {w : zH} (h : Sh w) (j : Int32) : zin? w 55 100 j = (0 ≤ j ∧ j.toNatClampNeg < 8) := propext (h.in (by decide) (by decide +kernel))
theorem l_55 {w : zH} (h : Sh w) : zal w 55 = some 8 := h.al (by decide) (by decide +kernel)
theorem a_56 {w : zH} (h : Sh w) (j : Int32) : zai w 56 100 j = if 0 ≤ j ∧ j.toNatClampNeg < 256 then some (ga w 56 j.toNatClampNeg) else none := h.ai (by decide) (by decide +kernel) (by decide) (by decide +kernel)
theorem n_56 {w : zH} (h : Sh w) (j : Int32) : zin? w 56 100 j = (0 ≤ j ∧ j.toNatClampNeg < 256) := propext (h.in (by decide) (by decide +kernel))
theorem l_56 {w : zH} (h : Sh w) : zal w 56 = some 256 := h.al (by decide) (by decide +kernel)
theorem a_57 {w : zH} (h : Sh w) (j : Int32) : zai w 57 100 j = if 0 ≤ j ∧ j.toNatClampNeg < 20 then some (ga w 57 j.toNatClampNeg) else none := h.ai (by decide) (by decide +kernel) (by decide) (by decide +kernel)
theorem n_57 {w : zH} (h : Sh w) (j : Int32) : zin? w 57 100 j = (0 ≤ j ∧ j.toNatClampNeg < 20) := propext (h.in (by decide) (by decide +kernel))
theorem l_57 {w : zH} (h : Sh w) : zal w 57 = some 20 := h.al (by decide) (by decide +kernel)
theorem a_58 {w : zH} (h : Sh w) (j : Int32) : zai w 58 100 j = if 0 ≤ j ∧ j.toNatClampNeg < 20 then some (ga w 58 j.toNatClampNeg) else none := h.ai (by decide) (by decide +kernel) (by decide) (by decide +kernel)
theorem n_58 {w : zH} (h : Sh w) (j : Int32) : zin? w 58 100 j = (0 ≤ j ∧ j.toNatClampNeg < 20) := propext (h.in (by decide) (by decide +kernel))
theorem l_58 {w : zH} (h : Sh w) : zal w 58 = some 20 := h.al (by decide) (by decide +kernel)
theorem a_59 {w : zH} (h : Sh w) (j : Int32) : zai w 59 100 j = if 0 ≤ j ∧ j.toNatClampNeg < 20 then some (ga w 59 j.toNatClampNeg) else none := h.ai (by decide) (by decide +kernel) (by decide) (by decide +kernel)
theorem n_59 {w : zH} (h : Sh w) (j : Int32) : zin? w 59 100 j = (0 ≤ j ∧ j.toNatClampNeg < 20) := propext (h.in (by decide) (by decide +kernel))
theorem l_59 {w : zH} (h : Sh w) : zal w 59 = some 20 := h.al (by decide) (by decide +kernel)
theorem a_60 {w : zH} (h : Sh w) (j : Int32) : zai w 60 100 j = if 0 ≤ j ∧ j.toNatClampNeg < 16 then some (ga w 60 j.toNatClampNeg) else none := h.ai (by decide) (by decide +kernel) (by decide) (by decide +kernel)
theorem n_60 {w : zH} (h : Sh w) (j : Int32) : zin? w 60 100 j = (0 ≤ j ∧ j.toNatClampNeg < 16) := propext (h.in (by decide) (by decide +kernel))
theorem l_60 {w : zH} (h : Sh w) : zal w 60 = some 16 := h.al (by decide) (by decide +kernel)
theorem a_61 {w : zH} (h : Sh w) (j : Int32) : zai w 61 100 j = if 0 ≤ j ∧ j.toNatClampNeg < 16 then some (ga w 61 j.toNatClampNeg) else none := h.ai (by decide) (by decide +kernel) (by decide) (by decide +kernel)
theorem n_61 {w : zH} (h : Sh w) (j : Int32) : zin? w 61 100 j = (0 ≤ j ∧ j.toNatClampNeg < 16) := propext (h.in (by decide) (by decide +kernel))
theorem l_61 {w : zH} (h : Sh w) : zal w 61 = some 16 := h.al (by decide) (by decide +kernel)
theorem a_62 {w : zH} (h : Sh w) (j : Int32) : zai w 62 100 j = if 0 ≤ j ∧ j.toNatClampNeg < 16 then some (ga w 62 j.toNatClampNeg) else none := h.ai (by decide) (by decide +kernel) (by decide) (by decide +kernel)
theorem n_62 {w : zH} (h : Sh w) (j : Int32) : zin? w 62 100 j = (0 ≤ j ∧ j.toNatClampNeg < 16) := propext (h.in (by decide) (by decide +kernel))
theorem l_62 {w : zH} (h : Sh w) : zal w 62 = some 16 := h.al (by decide) (by decide +kernel)
theorem a_63 {w : zH} (h : Sh w) (j : Int32) : zai w 63 100 j = if 0 ≤ j ∧ j.toNatClampNeg < 12 then some (ga w 63 j.toNatClampNeg) else none := h.ai (by decide) (by decide +kernel) (by decide) (by decide +kernel)
theorem n_63 {w : zH} (h : Sh w) (j : Int32) : zin? w 63 100 j = (0 ≤ j ∧ j.toNatClampNeg < 12) := propext (h.in (by decide) (by decide +kernel))
theorem l_63 {w : zH} (h : Sh w) : zal w 63 = some 12 := h.al (by decide) (by decide +kernel)
theorem a_64 {w : zH} (h : Sh w) (j : Int32) : zai w 64 100 j = if 0 ≤ j ∧ j.toNatClampNeg < 16 then some (ga w 64 j.toNatClampNeg) else none := h.ai (by decide) (by decide +kernel) (by decide) (by decide +kernel)
theorem n_64 {w : zH} (h : Sh w) (j : Int32) : zin? w 64 100 j = (0 ≤ j ∧ j.toNatClampNeg < 16) := propext (h.in (by decide) (by decide +kernel))
theorem l_64 {w : zH} (h : Sh w) : zal w 64 = some 16 := h.al (by decide) (by decide +kernel)
