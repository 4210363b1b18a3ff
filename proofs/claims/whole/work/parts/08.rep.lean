/-! WHAT THE MACHINE HOLDS WHERE THE ABSTRACT MACHINE STANDS. B: the heap's size at the law's start, H0: that heap; xv: where the cells from zX on lie; D, dA: classes and array classes as the tables have them -/
def zv (B : Nat) (xv : Nat → Value) (v : Value) : Value := match v with
  | .ref a => if a < zX then .ref (B + a) else xv (a - zX)
  | v => v
def zsz (w : zH) : Nat := (w.map fun c => c.2.length).sum
def zcell (B : Nat) (xv : Nat → Value) (D : va_G) (dA : Nat → ClassId) (c : Nat × List Value) (cell : Cell) : Prop :=
  cell.vm = .none ∧ ((c.1 < 13 ∧ c.2.length = znf.getD c.1 0 ∧ cell.cls = D.1 c.1 ∧ ∀ (j : Nat) (v : Value), c.2[j]? = some v → cell.slots[D.2 c.1 j]? = some (zv B xv v)) ∨
    ((c.1 = 100 ∨ c.1 = 101 ∨ c.1 ∈ zqk) ∧ cell.cls = dA c.1 ∧ cell.slots = (c.2.map (zv B xv)).toArray ∧ (c.1 = 100 → ∀ v ∈ c.2, zint v = true)))
def zHR (B : Nat) (xv : Nat → Value) (D : va_G) (dA : Nat → ClassId) (H0 : Heap) (w : zH) (H : Heap) : Prop :=
  H.size = B + w.length ∧ B = H0.size ∧ (∀ q : Nat, q < B → H[q]? = H0[q]?) ∧ ∀ (a : Nat) (c : Nat × List Value), w[a]? = some c → ∃ cell : Cell, H[B + a]? = some cell ∧ zcell B xv D dA c cell
def zLR (B : Nat) (xv : Nat → Value) (lsM : Array Slot) (nL : Nat) (ls : List Value) : Prop :=
  lsM.size = nL ∧ ls.length = nL ∧ lv_wf lsM ∧ ∀ (i : Nat) (v : Value), ls[i]? = some v → v ≠ zJ → lsM[i]? = some (.val (zv B xv v))
def ztys (dA : Nat → ClassId) : List (ClassId × FieldType) := [(dA 100, .int), (dA 101, .char)] ++ zqk.map (fun k => (dA k, .object (zO.getD (k - 200) "")))
def zlenS : List Nat := zS.map (fun s => (zB s).length)
def zbytS : List (List Int32) := zS.map (fun s => s.toList.map (fun c => Int32.ofNat c.toNat))
/-- what stood before the law began -/
def zXK (B : Nat) (xv : Nat → Value) (H0 : Heap) (xs : Option (List Value)) (s : State) : Prop :=
  (∀ i : Nat, xv i = .null ∨ ∃ a : Nat, xv i = .ref a) ∧
  (∃ adK adV : Nat → Nat, vk_S 6 zlenS zbytS adK adV (fun q => B ≤ q) s H0 ∧ (∀ i : Nat, i < 6 → xv i = .ref (adK i) ∧ xv (10 + i) = .ref (adV i)) ∧ ∀ e ∈ zSL, vk_R (zO.getD e.1 "") e.2.1 (zS.getD e.2.2 "") (adK e.2.2) s) ∧
  va_Z RJ0 "COMPACT_STRINGS" "Z" (.int 1) (fun q => B ≤ q) s H0 ∧ va_Z RJ3 "SIOOBE_FORMATTER" "Ljava/util/function/BiFunction;" (xv 20) (fun q => B ≤ q) s H0 ∧
  ∃ (b : Nat) (f : Nat → Int32), xv 6 = .ref b ∧ b < B ∧ ∀ l, xs = some l → l.length < 2 ^ 31 ∧ va_X b l.length f s H0 ∧ ∀ (j : Nat) (v : Value), l[j]? = some v → v = .int (f j)
def zK (B : Nat) (xv : Nat → Value) (D : va_G) (dA : Nat → ClassId) (H0 : Heap) (xs : Option (List Value)) (s : State) : Prop :=
  va_K D vwCl (ztys dA) s ∧ (∀ w ∈ zNW, va_Nw w s) ∧ (∀ k ∈ zqk, va_AO (zO.getD (k - 200) "") s) ∧ zXK B xv H0 xs s
/-- a frame of method y -/
def zCx (B : Nat) (xv : Nat → Value) (D : va_G) (dA : Nat → ClassId) (H0 : Heap) (xs : Option (List Value)) (p : Program) (R : Room) (s : State) (m : MethodId) (args : Array Value) (meth : Method) (c : Code) (y : Nat) : Prop :=
  p.tables.exec = Jvm.exec ∧ c.code = zCd.getD y ⟨#[]⟩ ∧ c.maxLocals = (zM.getD y (0, 0, 0)).2.2 ∧ s.vm.findClass (zO.getD (zOw.getD y 0) "") = some m.cls ∧ (∀ w ∈ zG, w.before args s = true) ∧ meth.sig.returnType = zQ.getD y none ∧ meth.locks = false ∧
  ((zN.getD y objectInit).name = "<init>" → meth.name = "<init>") ∧ R.frames = (zF.getD y (0, 0)).1 ∧ R.locals = (zF.getD y (0, 0)).2 ∧ zK B xv D dA H0 xs s
section ZV
variable {B : Nat} {xv : Nat → Value}
theorem zv_int (x : Int32) : zv B xv (.int x) = .int x := rfl
theorem zv_long (x : Int64) : zv B xv (.long x) = .long x := rfl
theorem zv_null : zv B xv .null = .null := rfl
theorem zv_ref {a : Nat} (h : a < zX) : zv B xv (.ref a) = .ref (B + a) := by simp [zv, h]
theorem zv_ext {a : Nat} : zv B xv (.ref (zX + a)) = xv a := by
  have h : ¬ zX + a < zX := by omega
  simp [zv, h]
theorem zv_isref (hx : ∀ i : Nat, xv i = .null ∨ ∃ a : Nat, xv i = .ref a) {v : Value} (h : zref v = true) : zv B xv v = .null ∨ ∃ a : Nat, zv B xv v = .ref a := by
  cases v with
  | null => exact Or.inl rfl
  | ref a =>
    by_cases ha : a < zX
    · exact Or.inr ⟨_, zv_ref ha⟩
    · have : zv B xv (.ref a) = xv (a - zX) := by simp [zv, ha]
      rw [this]
      exact hx _
  | _ => cases h
theorem zv_cat (hx : ∀ i : Nat, xv i = .null ∨ ∃ a : Nat, xv i = .ref a) (v : Value) : (zv B xv v).category = v.category := by
  cases v with
  | ref a =>
    rcases zv_isref (B := B) hx (v := .ref a) rfl with h | ⟨q, h⟩ <;> rw [h] <;> rfl
  | _ => rfl
theorem zv_cats (hx : ∀ i : Nat, xv i = .null ∨ ∃ a : Nat, xv i = .ref a) (st : List Value) : ((st.map (zv B xv)).map fun v => v.category).sum = zcat st := by
  unfold zcat
  rw [List.map_map]
  congr 1
  apply List.map_congr_left
  intro v _
  exact zv_cat hx v
theorem zsl_len (hx : ∀ i : Nat, xv i = .null ∨ ∃ a : Nat, xv i = .ref a) (vs : List Value) : (lg_sl (vs.map (zv B xv))).length = (zsl vs).length := by
  induction vs with
  | nil => rfl
  | cons v vs ih =>
    simp only [lg_sl, zsl, List.map_cons, List.flatMap_cons, List.length_append, zv_cat hx] at ih ⊢
    rw [ih]
    split <;> simp
theorem zJ_cat : zJ.category = 1 := rfl
/-- the listed locals -/
def zpr (B : Nat) (xv : Nat → Value) (ls : List Value) : List (Nat × Value) := (List.range ls.length).filterMap (fun i => match ls[i]? with
  | some v => if v = zJ then none else some (i, zv B xv v)
  | none => none)
theorem zpr_mem {ls : List Value} {i : Nat} {v : Value} (h : ls[i]? = some v) (hv : v ≠ zJ) : (i, zv B xv v) ∈ zpr B xv ls := by
  refine List.mem_filterMap.mpr ⟨i, List.mem_range.mpr (List.getElem?_eq_some_iff.mp h).1, ?_⟩
  rw [h]
  simp [hv]
theorem zLR.has {lsM : Array Slot} {nL : Nat} {ls : List Value} (h : zLR B xv lsM nL ls) : lv_has lsM nL (zpr B xv ls) := by
  refine ⟨h.1, h.2.2.1, fun q hq => ?_⟩
  obtain ⟨i, -, hi⟩ := List.mem_filterMap.mp hq
  cases hv : ls[i]? with
  | none => rw [hv] at hi; cases hi
  | some v =>
    rw [hv] at hi
    dsimp only at hi
    split at hi
    · cases hi
    · rename_i hne
      cases hi
      exact h.2.2.2 i v hv hne
theorem zLR.store1 (hx : ∀ i : Nat, xv i = .null ∨ ∃ a : Nat, xv i = .ref a) {lsM lsM' : Array Slot} {nL i : Nat} {ls : List Value} {v v' : Value} (h : zLR B xv lsM nL ls) (hi : i < ls.length) (hf : zfree ls i = true) (hv : zv B xv v = v')
    (h' : lv_has lsM' nL ((i, v') :: (zpr B xv ls).filter (fun q => !(q.1 == i) && !(q.1 + 1 == i && q.2.category == 2)))) : zLR B xv lsM' nL (ls.set i v) := by
  subst hv
  refine ⟨h'.1, by rw [List.length_set]; exact h.2.1, h'.2.1, fun j u hj hu => ?_⟩
  rw [List.getElem?_set] at hj
  split at hj
  · rename_i e
    subst e
    (try rw [if_pos hi] at hj)
    cases hj
    exact h'.2.2 (i, zv B xv v) List.mem_cons_self
  · rename_i e
    refine h'.2.2 (j, zv B xv u) (List.mem_cons_of_mem _ (List.mem_filter.mpr ⟨zpr_mem hj hu, ?_⟩))
    have e1 : ¬ j = i := fun q => e q.symm
    by_cases e2 : j + 1 = i
    · subst e2
      simp only [zfree, hj, decide_eq_true_eq] at hf
      simp [zv_cat hx, hf]
    · simp [e1, e2]
theorem zLR.store2 (hx : ∀ i : Nat, xv i = .null ∨ ∃ a : Nat, xv i = .ref a) {lsM lsM' : Array Slot} {nL i : Nat} {ls : List Value} {v : Int64} (h : zLR B xv lsM nL ls) (hi : i + 1 < ls.length) (hf : zfree ls i = true)
    (h' : lv_has lsM' nL ((i, Value.long v) :: (zpr B xv ls).filter (fun q => !(q.1 == i) && (!(q.1 == i + 1) && !(q.1 + 1 == i && q.2.category == 2))))) : zLR B xv lsM' nL ((ls.set i (.long v)).set (i + 1) zJ) := by
  refine ⟨h'.1, by rw [List.length_set, List.length_set]; exact h.2.1, h'.2.1, fun j u hj hu => ?_⟩
  rw [List.getElem?_set] at hj
  split at hj
  · rename_i e
    rw [if_pos (by rw [List.length_set]; exact hi)] at hj
    cases hj
    exact absurd rfl hu
  · rename_i e0
    rw [List.getElem?_set] at hj
    split at hj
    · rename_i e
      subst e
      rw [if_pos (by omega)] at hj
      cases hj
      exact h'.2.2 (i, .long v) List.mem_cons_self
    · rename_i e
      refine h'.2.2 (j, zv B xv u) (List.mem_cons_of_mem _ (List.mem_filter.mpr ⟨zpr_mem hj hu, ?_⟩))
      have e1 : ¬ j = i := fun q => e q.symm
      have e3 : ¬ j = i + 1 := fun q => e0 q.symm
      by_cases e2 : j + 1 = i
      · subst e2
        simp only [zfree, hj, decide_eq_true_eq] at hf
        have e4 : ¬ j = j + 1 + 1 := by omega
        simp [zv_cat hx, hf, e4]
      · simp [e1, e2, e3]
/-- the entry's locals -/
theorem zLR.entry (hx : ∀ i : Nat, xv i = .null ∨ ∃ a : Nat, xv i = .ref a) {n : Nat} {vs : List Value} (h : (zsl vs).length ≤ n) : zLR B xv ((lg_sl (vs.map (zv B xv)) ++ List.replicate (n - (lg_sl (vs.map (zv B xv))).length) Slot.unset).toArray) n (zloc n vs) := by
  have hh := lv_entry (vs.map (zv B xv)) (n := n) (by rw [zsl_len hx]; exact h)
  have key : ∀ (vs : List Value) (k i : Nat) (v : Value), (zsl vs)[i]? = some v → v ≠ zJ → (k + i, zv B xv v) ∈ lv_args k (vs.map (zv B xv)) := by
    intro vs
    induction vs with
    | nil => intro k i v h; simp [zsl] at h
    | cons a vs ih =>
      intro k i v h hv
      rw [List.map_cons, lv_args, zv_cat hx]
      have hz : zsl (a :: vs) = (if a.category = 2 then [a, zJ] else [a]) ++ zsl vs := rfl
      rw [hz] at h
      by_cases hc : a.category = 2
      · rw [if_pos hc] at h ⊢
        match i, h with
        | 0, h => simp at h; subst h; exact List.mem_cons_self
        | 1, h => simp at h; exact absurd h.symm hv
        | i + 2, h =>
          have := ih (k + 2) i v (by simpa using h) hv
          rw [show k + (i + 2) = k + 2 + i by omega]
          exact List.mem_cons_of_mem _ this
      · rw [if_neg hc] at h ⊢
        match i, h with
        | 0, h => simp at h; subst h; exact List.mem_cons_self
        | i + 1, h =>
          have := ih (k + 1) i v (by simpa using h) hv
          rw [show k + (i + 1) = k + 1 + i by omega]
          exact List.mem_cons_of_mem _ this
  refine ⟨hh.1, ?_, hh.2.1, fun i v hi hv => ?_⟩
  · simp only [zloc, List.length_append, List.length_replicate]; omega
  · have h1 : (zsl vs)[i]? = some v := by
      unfold zloc at hi
      rw [List.getElem?_append] at hi
      split at hi
      · exact hi
      · rw [List.getElem?_replicate] at hi
        split at hi
        · cases hi; exact absurd rfl hv
        · cases hi
    have := hh.2.2 _ (key vs 0 i v h1 hv)
    simpa using this
end ZV
