/-! ONE INSTRUCTION OF THE ABSTRACT MACHINE IS ONE OF THE MACHINE -/
def zW (B : Nat) (xv : Nat → Value) (D : va_G) (dA : Nat → ClassId) (H0 : Heap) (p : Program) (l : Launch) (e : Env) (R : Room) (s : State) (m : MethodId) (args : Array Value) (below : List Frame) (meth : Method) (c : Code) (Q : State → Prop) (nL n0 s0 pc : Nat) (ls st : List Value) (w : zH) : Prop :=
  ∀ (H : Heap) (locs : List Loc) (lsM : Array Slot), zHR B xv D dA H0 w H → zLR B xv lsM nL ls → (∀ q ∈ locs, B ≤ q.base) → W p l e R s m args below meth c H locs (w.length - n0) (zsz w - s0) Q (F0 m pc lsM (st.map (zv B xv)))
/-- the type of an array kind's elements -/
def zkt (k : Nat) : FieldType := if k = 100 then .int else if k = 101 then .char else if k = 103 then .byte else .object (zO.getD (k - 200) "")
theorem ztys_get {dA : Nat → ClassId} {k : Nat} (h : k = 100 ∨ k = 101 ∨ k ∈ zqk) : ∃ i : Nat, (ztys dA)[i]? = some (dA k, zkt k) := by
  rcases h with rfl | rfl | h
  · exact ⟨0, rfl⟩
  · exact ⟨1, rfl⟩
  · simp only [zqk, List.mem_cons, List.not_mem_nil, or_false] at h
    rcases h with rfl | rfl | rfl | rfl | rfl | rfl | rfl
    · exact ⟨2, rfl⟩
    · exact ⟨3, rfl⟩
    · exact ⟨4, rfl⟩
    · exact ⟨5, rfl⟩
    · exact ⟨6, rfl⟩
    · exact ⟨7, rfl⟩
    · exact ⟨8, rfl⟩
theorem zqk_ge {k : Nat} (h : k ∈ zqk) : 200 ≤ k ∧ k < 213 := by
  simp only [zqk, List.mem_cons, List.not_mem_nil, or_false] at h
  omega
theorem zsz_set {w : zH} {a : Nat} {c0 c1 : Nat × List Value} (h : w[a]? = some c0) (hl : c1.2.length = c0.2.length) : zsz (w.set a c1) = zsz w := by
  unfold zsz
  rw [List.map_set, hl]
  congr 1
  have h1 : (w.map fun c => c.2.length)[a]? = some c0.2.length := by rw [List.getElem?_map, h]; rfl
  obtain ⟨ha, he⟩ := List.getElem?_eq_some_iff.mp h1
  rw [← he]
  exact List.set_getElem_self ha
theorem zsz_push (w : zH) (c : Nat × List Value) : zsz (w ++ [c]) = zsz w + c.2.length := by
  simp [zsz]
section ZR
variable {B : Nat} {xv : Nat → Value} {D : va_G} {dA : Nat → ClassId} {H0 : Heap} {xs : Option (List Value)} {s : State}
theorem zHR.set {w : zH} {H H' : Heap} {a : Nat} {c0 c1 : Nat × List Value} {cell' : Cell} (h : zHR B xv D dA H0 w H) (ha : w[a]? = some c0) (e1 : H'[B + a]? = some cell') (hc : zcell B xv D dA c1 cell') (z : H'.size = H.size) (o : ∀ q : Nat, q ≠ B + a → H'[q]? = H[q]?) : zHR B xv D dA H0 (w.set a c1) H' := by
  refine ⟨by rw [z, List.length_set]; exact h.1, h.2.1, fun q hq => by rw [o q (by omega)]; exact h.2.2.1 q hq, fun b c hb => ?_⟩
  rw [List.getElem?_set] at hb
  by_cases hab : a = b
  · subst hab
    rw [if_pos rfl] at hb
    split at hb
    · cases hb
      exact ⟨cell', e1, hc⟩
    · cases hb
  · rw [if_neg hab] at hb
    obtain ⟨cell, g1, g2⟩ := h.2.2.2 b c hb
    exact ⟨cell, by rw [o _ (by omega)]; exact g1, g2⟩
theorem zHR.push {w : zH} {H H' : Heap} {c1 : Nat × List Value} {cell' : Cell} (h : zHR B xv D dA H0 w H) (e1 : H'[H.size]? = some cell') (hc : zcell B xv D dA c1 cell') (z : H'.size = H.size + 1) (o : ∀ q : Nat, q < H.size → H'[q]? = H[q]?) : zHR B xv D dA H0 (w ++ [c1]) H' := by
  refine ⟨by rw [z, List.length_append, h.1]; simp only [List.length_singleton]; omega, h.2.1, fun q hq => by rw [o q (by rw [h.1]; omega)]; exact h.2.2.1 q hq, fun b c hb => ?_⟩
  rw [List.getElem?_append] at hb
  split at hb
  · rename_i hl
    obtain ⟨cell, g1, g2⟩ := h.2.2.2 b c hb
    exact ⟨cell, by rw [o _ (by rw [h.1]; omega)]; exact g1, g2⟩
  · rename_i hl
    have hz : b - w.length < 1 := (List.getElem?_eq_some_iff.mp hb).1
    have hbw : b = w.length := by omega
    subst hbw
    rw [Nat.sub_self] at hb
    cases hb
    rw [h.1] at e1
    exact ⟨cell', e1, hc⟩
/-- an array, wherever it lies -/
theorem zarr {w : zH} {H : Heap} (hK : zK B xv D dA H0 xs s) (hH : zHR B xv D dA H0 w H) {a k : Nat} {vs : List Value} (hr : zr xs w a = some (k, vs)) (hk : 100 ≤ k) :
    ∃ (q : Nat) (cell : Cell), zv B xv (.ref a) = .ref q ∧ H[q]? = some cell ∧ s.isArrayOf cell (zkt k) ∧ cell.vm ≠ .unknown ∧ vs.length ≤ cell.slots.size ∧ cell.slots.size.toInt32 = Int32.ofNat vs.length ∧ ∀ (j : Nat) (v : Value), vs[j]? = some v → cell.slots[j]? = some (zv B xv v) := by
  unfold zr at hr
  split at hr
  · rename_i ha
    obtain ⟨cell, h1, hvm, hc⟩ := hH.2.2.2 a _ hr
    rcases hc with ⟨h13, -⟩ | ⟨hkind, hcls, hsl, -⟩
    · exact absurd h13 (by dsimp only; omega)
    · dsimp only at hkind hcls hsl
      obtain ⟨i, hi⟩ := ztys_get (dA := dA) hkind
      obtain ⟨-, kA, hkA, comp, hkd⟩ := (hK.1.2 i _ hi).1 0 (fun _ => .null)
      refine ⟨B + a, cell, zv_ref ha, h1, ⟨fun z h => (by rw [hvm] at h; cases h), kA, (by rw [hcls]; exact hkA), comp, hkd⟩, (by rw [hvm]; exact fun h => (by cases h)), ?_, ?_, fun j v hj => ?_⟩
      · rw [hsl]; simp
      · rw [hsl]; simp
      · rw [hsl, List.getElem?_toArray, List.getElem?_map, hj]; rfl
  · rename_i ha
    obtain ⟨-, ⟨adK, adV, hS, hxv, -⟩, -, -, b, f, hb, hbB, hxx⟩ := hK.2.2.2
    have hzv : zv B xv (.ref a) = xv (a - zX) := by simp [zv, ha]
    unfold zE at hr
    split at hr
    · cases hr; omega
    · split at hr
      · rename_i h6
        obtain ⟨l, hxl, hr⟩ := Option.map_eq_some_iff.mp hr
        cases hr
        obtain ⟨-, hX, hxs⟩ := hxx _ hxl
        obtain ⟨scr, g1, g2, g3, g4, g5⟩ := hX
        refine ⟨b, scr, by rw [hzv, h6]; exact hb, by rw [hH.2.2.1 b hbB]; exact g1, g2, g3, by omega, ?_, fun j v hj => ?_⟩
        · rw [g4]
        · have hj2 := (List.getElem?_eq_some_iff.mp hj).1
          rw [hxs j v hj]
          exact g5 j hj2
      · split at hr
        · cases hr
        · rename_i h0 h6 h10
          cases hs : zS[a - zX - 10]? with
          | none => rw [hs] at hr; cases hr
          | some str =>
            rw [hs] at hr
            cases hr
            have hi : a - zX - 10 < 6 := (List.getElem?_eq_some_iff.mp hs).1
            have hT := (hS.1 _ hi).2.2.2
            obtain ⟨cell, g1, g2, g3, g4, g5, g6, g7⟩ := hT
            have hl : zlenS.getD (a - zX - 10) 0 = (zB str).length := by
              rw [List.getD_eq_getElem?_getD]
              unfold zlenS
              rw [List.getElem?_map, hs]; rfl
            have hby : zbytS.getD (a - zX - 10) [] = str.toList.map (fun c => Int32.ofNat c.toNat) := by
              rw [List.getD_eq_getElem?_getD]
              unfold zbytS
              rw [List.getElem?_map, hs]; rfl
            rw [hl] at g4 g5 g6
            refine ⟨adV (a - zX - 10), cell, ?_, ?_, g2, g3, g4, g5, fun j v hj => ?_⟩
            · rw [hzv, ← (hxv _ hi).2, show 10 + (a - zX - 10) = a - zX by omega]
            · rw [hH.2.2.1 _ (Nat.lt_of_not_le g7)]; exact g1
            · have hj2 := (List.getElem?_eq_some_iff.mp hj).1
              rw [g6 j hj2, hby]
              unfold zB at hj
              rw [List.getElem?_map] at hj
              dsimp only
              rw [List.getD_eq_getElem?_getD, List.getElem?_map]
              cases hc : str.toList[j]? with
              | none => rw [hc] at hj; cases hj
              | some ch => rw [hc] at hj; cases hj; rfl
end ZR
