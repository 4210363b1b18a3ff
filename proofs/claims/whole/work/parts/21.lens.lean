/-! the heap as the equations of instructions see it -/
/-- a field: n = 100 * class + place -/
def zf (w : zH) (a n : Nat) : Option Value := match zr none w a with
  | some (k, vs) => if k = n / 100 then vs[n % 100]? else none
  | none => none
/-- the heap with a field set -/
def zpf (w : zH) (a n : Nat) (v : Value) : zH := match w[a]? with
  | some (k, vs) => w.set a (k, vs.set (n % 100) v)
  | none => w
/-- an element that is an int -/
def zai (w : zH) (a k : Nat) (j : Int32) : Option Int32 := match zr none w a with
  | some (k', vs) => if k' = k ∧ ¬ j < 0 then match vs[j.toNatClampNeg]? with
      | some (.int x) => some x
      | _ => none
    else none
  | none => none
/-- an element that is a reference -/
def zaa (w : zH) (a : Nat) (j : Int32) : Option Value := match zr none w a with
  | some (k', vs) => if 200 ≤ k' ∧ ¬ j < 0 then match vs[j.toNatClampNeg]? with
      | some v => if zref v = true then some v else none
      | none => none
    else none
  | none => none
/-- the length of an array -/
def zal (w : zH) (a : Nat) : Option Nat := match zr none w a with
  | some (k, vs) => if 100 ≤ k then some vs.length else none
  | none => none
/-- the place lies in the array of kind k -/
def zin? (w : zH) (a k : Nat) (j : Int32) : Prop := a < zX ∧ ∃ vs : List Value, w[a]? = some (k, vs) ∧ ¬ j < 0 ∧ j.toNatClampNeg < vs.length
/-- the heap with an element set -/
def zas (w : zH) (a : Nat) (j : Int32) (v : Value) : zH := match w[a]? with
  | some (k, vs) => w.set a (k, vs.set j.toNatClampNeg v)
  | none => w
noncomputable def zo (o : Option Value) (f : Value → Option zR) : Option zR := match o with
  | some v => f v
  | none => none
noncomputable def zoi (o : Option Int32) (f : Int32 → Option zR) : Option zR := match o with
  | some v => f v
  | none => none
noncomputable def zon (o : Option Nat) (f : Nat → Option zR) : Option zR := match o with
  | some v => f v
  | none => none
noncomputable def zcl (o : Option zR) (f : zR → Option zR) : Option zR := match o with
  | some v => f v
  | none => none
theorem zo_some (v : Value) (f : Value → Option zR) : zo (some v) f = f v := rfl
theorem zoi_some (v : Int32) (f : Int32 → Option zR) : zoi (some v) f = f v := rfl
theorem zon_some (v : Nat) (f : Nat → Option zR) : zon (some v) f = f v := rfl
theorem zcl_some (v : zR) (f : zR → Option zR) : zcl (some v) f = f v := rfl
/-- under a condition -/
noncomputable def zgd (p : Prop) (r : Option zR) : Option zR := @ite _ p (Classical.propDecidable p) r none
theorem zgd_pos {p : Prop} {r : Option zR} (h : p) : zgd p r = r := by unfold zgd; rw [if_pos h]
theorem zgd_neg {p : Prop} {r : Option zR} (h : ¬ p) : zgd p r = none := by unfold zgd; rw [if_neg h]
theorem zgd_true (r : Option zR) : zgd True r = r := zgd_pos trivial
theorem zgd_false (r : Option zR) : zgd False r = none := zgd_neg (fun h => h)
theorem zbit {x : Int32} (h : fits .boolean (.int x) = true) : x = 0 ∨ x = 1 := by
  simpa [fits] using h
/-- a reference may be stored -/
def zaq (w : zH) (a : Nat) (j : Int32) (v : Value) : Prop := ∃ k : Nat, zin? w a k j ∧ zastq w k v = true
section ZLE
variable {y pc : Nat} {ls st : List Value} {w : zH} {a : Nat}
theorem zq_getf {n : Nat} : zres (zgetf none n y pc ls (.ref a :: st) w) = zo (zf w a n) (fun v => zrun none (y, pc + 3, ls, v :: st, w)) := by
  unfold zgetf zf
  dsimp only
  cases zr none w a with
  | none => rfl
  | some q =>
    obtain ⟨k, vs⟩ := q
    dsimp only
    split
    · cases vs[n % 100]? <;> rfl
    · rfl
theorem zq_putf {n : Nat} {v : Value} (ha : a < zX) (h : (zf w a n).isSome = true) (hf : fits (zfty n) v = true) (hn : narrow (zfty n) v = v) : zres (zputf n y pc ls (v :: .ref a :: st) w) = zrun none (y, pc + 3, ls, st, zpf w a n v) := by
  unfold zputf zpf
  unfold zf zr at h
  rw [if_pos ha] at h
  dsimp only
  rw [if_pos ha]
  cases hw : w[a]? with
  | none => rw [hw] at h; cases h
  | some q =>
    obtain ⟨k, vs⟩ := q
    rw [hw] at h
    dsimp only at h ⊢
    split at h
    · rename_i hk
      obtain ⟨u, hu⟩ := Option.isSome_iff_exists.mp h
      have := (List.getElem?_eq_some_iff.mp hu).1
      rw [if_pos ⟨hk, this, hf, hn⟩]
      rfl
    · cases h
theorem zq_putf_no {n : Nat} {v : Value} (h : a < zX → (zf w a n).isSome = true → fits (zfty n) v = true → False) : zres (zputf n y pc ls (v :: .ref a :: st) w) = none := by
  unfold zputf
  dsimp only
  split
  · rename_i ha
    split
    · rename_i k vs hw
      split
      · rename_i hc
        exfalso
        refine h ha ?_ hc.2.2.1
        unfold zf zr
        rw [if_pos ha, hw]
        dsimp only
        rw [if_pos hc.1, List.getElem?_eq_getElem hc.2.1]
        rfl
      · rfl
    · rfl
  · rfl
theorem zq_iald {j : Int32} : zres (zald none (fun k => k == 100) zint y pc ls (.int j :: .ref a :: st) w) = zoi (zai w a 100 j) (fun x => zrun none (y, pc + 1, ls, .int x :: st, w)) := by
  unfold zald zai
  dsimp only
  cases zr none w a with
  | none => rfl
  | some q =>
    obtain ⟨k, vs⟩ := q
    dsimp only
    by_cases h : k = 100 ∧ ¬ j < 0
    · rw [if_pos (by simpa using h), if_pos h]
      cases vs[j.toNatClampNeg]? with
      | none => rfl
      | some v => cases v <;> rfl
    · rw [if_neg (by simpa using h), if_neg h]
      rfl
theorem zq_cald {j : Int32} : zres (zald none (fun k => k == 101) zint y pc ls (.int j :: .ref a :: st) w) = zoi (zai w a 101 j) (fun x => zrun none (y, pc + 1, ls, .int x :: st, w)) := by
  unfold zald zai
  dsimp only
  cases zr none w a with
  | none => rfl
  | some q =>
    obtain ⟨k, vs⟩ := q
    dsimp only
    by_cases h : k = 101 ∧ ¬ j < 0
    · rw [if_pos (by simpa using h), if_pos h]
      cases vs[j.toNatClampNeg]? with
      | none => rfl
      | some v => cases v <;> rfl
    · rw [if_neg (by simpa using h), if_neg h]
      rfl
theorem zq_bald {j : Int32} : zres (zald none (fun k => k == 103) zint y pc ls (.int j :: .ref a :: st) w) = zoi (zai w a 103 j) (fun x => zrun none (y, pc + 1, ls, .int x :: st, w)) := by
  unfold zald zai
  dsimp only
  cases zr none w a with
  | none => rfl
  | some q =>
    obtain ⟨k, vs⟩ := q
    dsimp only
    by_cases h : k = 103 ∧ ¬ j < 0
    · rw [if_pos (by simpa using h), if_pos h]
      cases vs[j.toNatClampNeg]? with
      | none => rfl
      | some v => cases v <;> rfl
    · rw [if_neg (by simpa using h), if_neg h]
      rfl
theorem zq_aald {j : Int32} : zres (zald none (fun k => decide (200 ≤ k)) zref y pc ls (.int j :: .ref a :: st) w) = zo (zaa w a j) (fun v => zrun none (y, pc + 1, ls, v :: st, w)) := by
  unfold zald zaa
  dsimp only
  cases zr none w a with
  | none => rfl
  | some q =>
    obtain ⟨k, vs⟩ := q
    dsimp only
    by_cases h : 200 ≤ k ∧ ¬ j < 0
    · rw [if_pos (by simpa using h), if_pos h]
      cases vs[j.toNatClampNeg]? with
      | none => rfl
      | some v =>
        dsimp only
        split <;> rfl
    · rw [if_neg (by simpa using h), if_neg h]
      rfl
theorem zq_iast {j x : Int32} (h : zin? w a 100 j) : zres (zast (fun k v => k == 100 && zint v) (fun v => v) y pc ls (.int x :: .int j :: .ref a :: st) w) = zrun none (y, pc + 1, ls, st, zas w a j (.int x)) := by
  obtain ⟨ha, vs, hw, h0, hl⟩ := h
  unfold zast zas
  dsimp only
  rw [if_pos ha, hw]
  dsimp only
  rw [if_pos ⟨rfl, h0, hl⟩]
  rfl
theorem zq_cast {j x : Int32} (h : zin? w a 101 j) : zres (zast (fun k v => k == 101 && zint v) (fun v => narrow .char v) y pc ls (.int x :: .int j :: .ref a :: st) w) = zrun none (y, pc + 1, ls, st, zas w a j (narrow .char (.int x))) := by
  obtain ⟨ha, vs, hw, h0, hl⟩ := h
  unfold zast zas
  dsimp only
  rw [if_pos ha, hw]
  dsimp only
  rw [if_pos ⟨rfl, h0, hl⟩]
  rfl
theorem zq_aast {j : Int32} {v : Value} {k : Nat} (h : zin? w a k j) (hv : zastq w k v = true) : zres (zast (zastq w) (fun v => v) y pc ls (v :: .int j :: .ref a :: st) w) = zrun none (y, pc + 1, ls, st, zas w a j v) := by
  obtain ⟨ha, vs, hw, h0, hl⟩ := h
  unfold zast zas
  dsimp only
  rw [if_pos ha, hw]
  dsimp only
  rw [if_pos ⟨hv, h0, hl⟩]
  rfl
theorem zq_alen : zres (match zr none w a with
      | some (k, vs) => if 100 ≤ k then zgo y (pc + 1) ls (.int (Int32.ofNat vs.length) :: st) w else none
      | none => none) = zon (zal w a) (fun n => zrun none (y, pc + 1, ls, .int (Int32.ofNat n) :: st, w)) := by
  unfold zal
  cases zr none w a with
  | none => rfl
  | some q =>
    obtain ⟨k, vs⟩ := q
    dsimp only
    split <;> rfl
theorem zq_call {n pc2 : Nat} {vs rest : List Value} {ls1 : List Value} (hr : zcat rest ≤ 8) (hl : (zsl vs).length ≤ (zM.getD n (0, 0, 0)).2.2) (e : zloc (zM.getD n (0, 0, 0)).2.2 vs = ls1) (e2 : pc + 3 = pc2) : zres (zcall n vs rest y pc ls w) = zcl (zrun none (n, 0, ls1, [], w)) (fun r => zrun none (y, pc2, ls, r.1.toList ++ rest, r.2)) := by
  subst e; subst e2
  unfold zcall
  rw [if_pos ⟨hr, hl⟩]
  show (match zrun none _ with
    | none => none
    | some r => zrun none _) = _
  cases zrun none (n, 0, zloc (zM.getD n (0, 0, 0)).2.2 vs, [], w) <;> rfl
theorem zq_iast_no {j x : Int32} (h : ¬ zin? w a 100 j) : zres (zast (fun k v => k == 100 && zint v) (fun v => v) y pc ls (.int x :: .int j :: .ref a :: st) w) = none := by
  unfold zast
  dsimp only
  split
  · rename_i ha
    split
    · rename_i k vs hw
      split
      · rename_i hc
        have hk : k = 100 := by simpa [zint] using hc.1
        subst hk
        exact absurd ⟨ha, vs, hw, hc.2⟩ h
      · rfl
    · rfl
  · rfl
theorem zq_cast_no {j x : Int32} (h : ¬ zin? w a 101 j) : zres (zast (fun k v => k == 101 && zint v) (fun v => narrow .char v) y pc ls (.int x :: .int j :: .ref a :: st) w) = none := by
  unfold zast
  dsimp only
  split
  · rename_i ha
    split
    · rename_i k vs hw
      split
      · rename_i hc
        have hk : k = 101 := by simpa [zint] using hc.1
        subst hk
        exact absurd ⟨ha, vs, hw, hc.2⟩ h
      · rfl
    · rfl
  · rfl
theorem zq_aast_no {j : Int32} {v : Value} (h : ¬ zaq w a j v) : zres (zast (zastq w) (fun v => v) y pc ls (v :: .int j :: .ref a :: st) w) = none := by
  unfold zast
  dsimp only
  split
  · rename_i ha
    split
    · rename_i k vs hw
      split
      · rename_i hc
        exact absurd ⟨k, ⟨ha, vs, hw, hc.2⟩, hc.1⟩ h
      · rfl
    · rfl
  · rfl
/-- a cell of a class is there -/
def zis (w : zH) (a k : Nat) : Prop := ∃ vs : List Value, zr none w a = some (k, vs)
theorem zrc_is {n k : Nat} (h : zis w a k) (hk : (zM.getD n (99, 0, 0)).1 = k) : zrc none n w (.ref a) = true := by
  obtain ⟨vs, h⟩ := h
  unfold zrc
  dsimp only
  rw [h, hk]
  simp
theorem zrc_of {n k : Nat} (h : zrc none n w (.ref a) = true) (hk : (zM.getD n (99, 0, 0)).1 = k) : zis w a k := by
  unfold zrc at h
  dsimp only at h
  split at h
  · rename_i k' vs hr
    have : k' = (zM.getD n (99, 0, 0)).1 := of_decide_eq_true h
    rw [this, hk] at hr
    exact ⟨vs, hr⟩
  · cases h
end ZLE
