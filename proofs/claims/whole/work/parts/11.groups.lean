/-! the groups of instructions -/
section ZS
variable {B : Nat} {xv : Nat → Value} {D : va_G} {dA : Nat → ClassId} {H0 : Heap} {xs : Option (List Value)}
variable {p : Program} {l : Launch} {e : Env} {R : Room} {s : State} {m : MethodId} {args : Array Value} {below : List Frame} {meth : Method} {c : Code} {Q : State → Prop} {y n0 s0 : Nat}
theorem zs_go {pc : Nat} {ls st : List Value} {w : zH} {c' : zC} {pc1 : Nat} {ls1 st1 : List Value} {w1 : zH} (row : zW B xv D dA H0 p l e R s m args below meth c Q (zM.getD y (0, 0, 0)).2.2 n0 s0 pc1 ls1 st1 w1 → zW B xv D dA H0 p l e R s m args below meth c Q (zM.getD y (0, 0, 0)).2.2 n0 s0 pc ls st w) (hI : zgo y pc1 ls1 st1 w1 = some (.inr (.inl c'))) (hk : zW B xv D dA H0 p l e R s m args below meth c Q (zM.getD y (0, 0, 0)).2.2 n0 s0 c'.2.1 c'.2.2.1 c'.2.2.2.1 c'.2.2.2.2) : c'.1 = y ∧ zW B xv D dA H0 p l e R s m args below meth c Q (zM.getD y (0, 0, 0)).2.2 n0 s0 pc ls st w := by
  unfold zgo at hI
  cases hI
  exact ⟨rfl, row hk⟩
theorem zs_push {pc : Nat} {ls st : List Value} {w : zH} {c' : zC} {v : Value} {d : Nat} (row : ∀ (H : Heap) (locs : List Loc) (lsM : Array Slot) (r : List Value) (k1 k2 : Nat), W p l e R s m args below meth c H locs k1 k2 Q (F0 m (pc + d) lsM (zv B xv v :: r)) → W p l e R s m args below meth c H locs k1 k2 Q (F0 m pc lsM r)) (hI : zgo y (pc + d) ls (v :: st) w = some (.inr (.inl c'))) (hk : zW B xv D dA H0 p l e R s m args below meth c Q (zM.getD y (0, 0, 0)).2.2 n0 s0 c'.2.1 c'.2.2.1 c'.2.2.2.1 c'.2.2.2.2) : c'.1 = y ∧ zW B xv D dA H0 p l e R s m args below meth c Q (zM.getD y (0, 0, 0)).2.2 n0 s0 pc ls st w :=
  zs_go (fun k H locs lsM hH hL hl => row H locs lsM _ _ _ (k H locs lsM hH hL hl)) hI hk
theorem zs_i2 {pc : Nat} {ls st : List Value} {w : zH} {c' : zC} {f : Int32 → Int32 → Int32} (row : ∀ (H : Heap) (locs : List Loc) (lsM : Array Slot) (a b : Int32) (r : List Value) (k1 k2 : Nat), W p l e R s m args below meth c H locs k1 k2 Q (F0 m (pc + 1) lsM (.int (f a b) :: r)) → W p l e R s m args below meth c H locs k1 k2 Q (F0 m pc lsM (.int b :: .int a :: r))) (hI : zi2 f y pc ls st w = some (.inr (.inl c'))) (hk : zW B xv D dA H0 p l e R s m args below meth c Q (zM.getD y (0, 0, 0)).2.2 n0 s0 c'.2.1 c'.2.2.1 c'.2.2.2.1 c'.2.2.2.2) : c'.1 = y ∧ zW B xv D dA H0 p l e R s m args below meth c Q (zM.getD y (0, 0, 0)).2.2 n0 s0 pc ls st w := by
  unfold zi2 at hI
  split at hI
  · exact zs_go (fun k H locs lsM hH hL hl => row H locs lsM _ _ _ _ _ (k H locs lsM hH hL hl)) hI hk
  · cases hI
theorem zs_l2 {pc : Nat} {ls st : List Value} {w : zH} {c' : zC} {f : Int64 → Int64 → Int64} (row : ∀ (H : Heap) (locs : List Loc) (lsM : Array Slot) (a b : Int64) (r : List Value) (k1 k2 : Nat), W p l e R s m args below meth c H locs k1 k2 Q (F0 m (pc + 1) lsM (.long (f a b) :: r)) → W p l e R s m args below meth c H locs k1 k2 Q (F0 m pc lsM (.long b :: .long a :: r))) (hI : zl2 f y pc ls st w = some (.inr (.inl c'))) (hk : zW B xv D dA H0 p l e R s m args below meth c Q (zM.getD y (0, 0, 0)).2.2 n0 s0 c'.2.1 c'.2.2.1 c'.2.2.2.1 c'.2.2.2.2) : c'.1 = y ∧ zW B xv D dA H0 p l e R s m args below meth c Q (zM.getD y (0, 0, 0)).2.2 n0 s0 pc ls st w := by
  unfold zl2 at hI
  split at hI
  · exact zs_go (fun k H locs lsM hH hL hl => row H locs lsM _ _ _ _ _ (k H locs lsM hH hL hl)) hI hk
  · cases hI
theorem zs_i1 {pc : Nat} {ls st : List Value} {w : zH} {c' : zC} {f : Int32 → Value} (row : ∀ (H : Heap) (locs : List Loc) (lsM : Array Slot) (a : Int32) (r : List Value) (k1 k2 : Nat), W p l e R s m args below meth c H locs k1 k2 Q (F0 m (pc + 1) lsM (zv B xv (f a) :: r)) → W p l e R s m args below meth c H locs k1 k2 Q (F0 m pc lsM (.int a :: r))) (hI : zi1 f y pc ls st w = some (.inr (.inl c'))) (hk : zW B xv D dA H0 p l e R s m args below meth c Q (zM.getD y (0, 0, 0)).2.2 n0 s0 c'.2.1 c'.2.2.1 c'.2.2.2.1 c'.2.2.2.2) : c'.1 = y ∧ zW B xv D dA H0 p l e R s m args below meth c Q (zM.getD y (0, 0, 0)).2.2 n0 s0 pc ls st w := by
  unfold zi1 at hI
  split at hI
  · exact zs_go (fun k H locs lsM hH hL hl => row H locs lsM _ _ _ _ (k H locs lsM hH hL hl)) hI hk
  · cases hI
theorem zs_ld {pc : Nat} {ls st : List Value} {w : zH} {c' : zC} {ok : Value → Bool} {i d : Nat} (hJ : ok zJ = false) (row : ∀ (H : Heap) (locs : List Loc) (lsM : Array Slot) (v : Value) (r : List Value) (k1 k2 : Nat), ok v = true → lsM[i]? = some (.val (zv B xv v)) → W p l e R s m args below meth c H locs k1 k2 Q (F0 m (pc + d) lsM (zv B xv v :: r)) → W p l e R s m args below meth c H locs k1 k2 Q (F0 m pc lsM r)) (hI : zld ok i d y pc ls st w = some (.inr (.inl c'))) (hk : zW B xv D dA H0 p l e R s m args below meth c Q (zM.getD y (0, 0, 0)).2.2 n0 s0 c'.2.1 c'.2.2.1 c'.2.2.2.1 c'.2.2.2.2) : c'.1 = y ∧ zW B xv D dA H0 p l e R s m args below meth c Q (zM.getD y (0, 0, 0)).2.2 n0 s0 pc ls st w := by
  unfold zld at hI
  split at hI
  · rename_i v hv
    split at hI
    · rename_i hok
      refine zs_go (fun k H locs lsM hH hL hl => row H locs lsM v _ _ _ hok (hL.2.2.2 i v hv ?_) (k H locs lsM hH hL hl)) hI hk
      rintro rfl
      rw [hJ] at hok
      cases hok
    · cases hI
  · cases hI
theorem zs_st {pc : Nat} {ls st : List Value} {w : zH} {c' : zC} {ok : Value → Bool} {i d : Nat} (hx : ∀ i : Nat, xv i = .null ∨ ∃ a : Nat, xv i = .ref a) (row : ∀ (H : Heap) (locs : List Loc) (lsM : Array Slot) (lv : List (Nat × Value)) (v : Value) (r : List Value) (k1 k2 : Nat), ok v = true → lv_has lsM (zM.getD y (0, 0, 0)).2.2 lv → i < (zM.getD y (0, 0, 0)).2.2 → (∀ ls' : Array Slot, lv_has ls' (zM.getD y (0, 0, 0)).2.2 ((i, zv B xv v) :: lv.filter (fun q => !(q.1 == i) && !(q.1 + 1 == i && q.2.category == 2))) → W p l e R s m args below meth c H locs k1 k2 Q (F0 m (pc + d) ls' r)) → W p l e R s m args below meth c H locs k1 k2 Q (F0 m pc lsM (zv B xv v :: r))) (hI : zst ok i d y pc ls st w = some (.inr (.inl c'))) (hk : zW B xv D dA H0 p l e R s m args below meth c Q (zM.getD y (0, 0, 0)).2.2 n0 s0 c'.2.1 c'.2.2.1 c'.2.2.2.1 c'.2.2.2.2) : c'.1 = y ∧ zW B xv D dA H0 p l e R s m args below meth c Q (zM.getD y (0, 0, 0)).2.2 n0 s0 pc ls st w := by
  unfold zst at hI
  split at hI
  · rename_i v r
    split at hI
    · rename_i hok
      refine zs_go (fun k H locs lsM hH hL hl => row H locs lsM _ v _ _ _ hok.1 hL.has (by rw [← hL.2.1]; exact hok.2.1) (fun ls' h' => k H locs ls' hH (hL.store1 hx hok.2.1 hok.2.2 rfl h') hl)) hI hk
    · cases hI
  · cases hI
theorem zs_stl {pc : Nat} {ls st : List Value} {w : zH} {c' : zC} {i d : Nat} (hx : ∀ i : Nat, xv i = .null ∨ ∃ a : Nat, xv i = .ref a) (row : ∀ (H : Heap) (locs : List Loc) (lsM : Array Slot) (lv : List (Nat × Value)) (v : Int64) (r : List Value) (k1 k2 : Nat), lv_has lsM (zM.getD y (0, 0, 0)).2.2 lv → i + 1 < (zM.getD y (0, 0, 0)).2.2 → (∀ ls' : Array Slot, lv_has ls' (zM.getD y (0, 0, 0)).2.2 ((i, .long v) :: lv.filter (fun q => !(q.1 == i) && (!(q.1 == i + 1) && !(q.1 + 1 == i && q.2.category == 2)))) → W p l e R s m args below meth c H locs k1 k2 Q (F0 m (pc + d) ls' r)) → W p l e R s m args below meth c H locs k1 k2 Q (F0 m pc lsM (.long v :: r))) (hI : zstl i d y pc ls st w = some (.inr (.inl c'))) (hk : zW B xv D dA H0 p l e R s m args below meth c Q (zM.getD y (0, 0, 0)).2.2 n0 s0 c'.2.1 c'.2.2.1 c'.2.2.2.1 c'.2.2.2.2) : c'.1 = y ∧ zW B xv D dA H0 p l e R s m args below meth c Q (zM.getD y (0, 0, 0)).2.2 n0 s0 pc ls st w := by
  unfold zstl at hI
  split at hI
  · rename_i v r
    split at hI
    · rename_i hok
      refine zs_go (fun k H locs lsM hH hL hl => row H locs lsM _ v _ _ _ hL.has (by rw [← hL.2.1]; exact hok.1) (fun ls' h' => k H locs ls' hH (hL.store2 hx hok.1 hok.2 h') hl)) hI hk
    · cases hI
  · cases hI
theorem zs_jmp {pc : Nat} {ls st1 st : List Value} {w : zH} {c' : zC} {o : Int} (row : ∀ t : Nat, (pc : Int) + o = (t : Int) → zW B xv D dA H0 p l e R s m args below meth c Q (zM.getD y (0, 0, 0)).2.2 n0 s0 t ls st1 w → zW B xv D dA H0 p l e R s m args below meth c Q (zM.getD y (0, 0, 0)).2.2 n0 s0 pc ls st w) (hI : zjmp y pc o ls st1 w = some (.inr (.inl c'))) (hk : zW B xv D dA H0 p l e R s m args below meth c Q (zM.getD y (0, 0, 0)).2.2 n0 s0 c'.2.1 c'.2.2.1 c'.2.2.2.1 c'.2.2.2.2) : c'.1 = y ∧ zW B xv D dA H0 p l e R s m args below meth c Q (zM.getD y (0, 0, 0)).2.2 n0 s0 pc ls st w := by
  unfold zjmp at hI
  split at hI
  · rename_i t ht
    unfold zj at ht
    split at ht
    · rename_i h0
      cases ht
      exact zs_go (row _ (by omega)) hI hk
    · cases ht
  · cases hI
theorem zs_ald {pc : Nat} {ls st : List Value} {w : zH} {c' : zC} {kd : Nat → Bool} {ok : Value → Bool} {t : FieldType → Prop} (hK : zK B xv D dA H0 xs s) (hkd : ∀ k, kd k = true → 100 ≤ k ∧ t (zkt k)) (row : ∀ (H : Heap) (locs : List Loc) (lsM : Array Slot) (q : Nat) (cell : Cell) (ty : FieldType) (j : Int32) (v : Value) (r : List Value) (k1 k2 : Nat), t ty → H[q]? = some cell → s.isArrayOf cell ty → cell.vm ≠ .unknown → ¬ (j < 0 ∨ cell.slots.size ≤ j.toNatClampNeg) → cell.slots[j.toNatClampNeg]? = some (zv B xv v) → W p l e R s m args below meth c H locs k1 k2 Q (F0 m (pc + 1) lsM (zv B xv v :: r)) → W p l e R s m args below meth c H locs k1 k2 Q (F0 m pc lsM (.int j :: .ref q :: r))) (hI : zald xs kd ok y pc ls st w = some (.inr (.inl c'))) (hk : zW B xv D dA H0 p l e R s m args below meth c Q (zM.getD y (0, 0, 0)).2.2 n0 s0 c'.2.1 c'.2.2.1 c'.2.2.2.1 c'.2.2.2.2) : c'.1 = y ∧ zW B xv D dA H0 p l e R s m args below meth c Q (zM.getD y (0, 0, 0)).2.2 n0 s0 pc ls st w := by
  unfold zald at hI
  split at hI
  · rename_i j a r
    split at hI
    · rename_i k vs hr
      split at hI
      · rename_i hok
        split at hI
        · rename_i v hv
          split at hI
          · refine zs_go (fun kk H locs lsM hH hL hl => ?_) hI hk
            obtain ⟨q, cell, g1, g2, g3, g4, g5, g6, g7⟩ := zarr hK hH hr (hkd k hok.1).1
            show W p l e R s m args below meth c H locs _ _ Q (F0 m pc lsM (.int j :: zv B xv (.ref a) :: r.map (zv B xv)))
            rw [g1]
            have hj := (List.getElem?_eq_some_iff.mp hv).1
            refine row H locs lsM q cell _ j v _ _ _ (hkd k hok.1).2 g2 g3 g4 ?_ (g7 _ v hv) (kk H locs lsM hH hL hl)
            rintro (h | h)
            · exact hok.2 h
            · omega
          · cases hI
        · cases hI
      · cases hI
    · cases hI
  · cases hI
theorem zarr_store {k : Nat} {vs : List Value} {cell : Cell} {j : Nat} {v : Value} (h : zcell B xv D dA (k, vs) cell) (hk : 100 ≤ k) (hz : k = 100 → zint v = true) : zcell B xv D dA (k, vs.set j v) (cell.setSlot j (zv B xv v)) := by
  obtain ⟨hvm, ⟨h13, -⟩ | ⟨hkind, hcls, hsl, hi⟩⟩ := h
  · exact absurd h13 (by dsimp only; omega)
  · refine ⟨hvm, Or.inr ⟨hkind, hcls, ?_, fun h u hu => ?_⟩⟩
    · dsimp only at hsl ⊢
      simp only [Cell.setSlot]
      rw [hsl]
      simp [List.map_set]
    · rcases List.mem_or_eq_of_mem_set hu with h1 | h1
      · exact hi h u h1
      · rw [h1]; exact hz h
theorem zs_ast {pc : Nat} {ls st : List Value} {w : zH} {c' : zC} {kd : Nat → Value → Bool} {f : Value → Value} (hK : zK B xv D dA H0 xs s) (hkd : ∀ k v, kd k v = true → 100 ≤ k) (hf : ∀ k v, kd k v = true → zv B xv (f v) = f (zv B xv v)) (hz : ∀ k v, kd k v = true → k = 100 → zint (f v) = true) (row : ∀ (H : Heap) (locs : List Loc) (lsM : Array Slot) (q k : Nat) (cell : Cell) (j : Int32) (v : Value) (r : List Value) (k1 k2 : Nat), zHR B xv D dA H0 w H → kd k v = true → H[q]? = some cell → s.isArrayOf cell (zkt k) → cell.vm = .none → cell.cls = dA k → (k = 100 ∨ k = 101 ∨ k ∈ zqk) → ¬ (j < 0 ∨ cell.slots.size ≤ j.toNatClampNeg) → (∀ H' : Heap, H'[q]? = some (cell.setSlot j.toNatClampNeg (f (zv B xv v))) → H'.size = H.size → (∀ q', q' ≠ q → H'[q']? = H[q']?) → W p l e R s m args below meth c H' (locs ++ [⟨q, j.toNatClampNeg⟩]) k1 k2 Q (F0 m (pc + 1) lsM r)) → W p l e R s m args below meth c H locs k1 k2 Q (F0 m pc lsM (zv B xv v :: .int j :: .ref q :: r))) (hI : zast kd f y pc ls st w = some (.inr (.inl c'))) (hk : zW B xv D dA H0 p l e R s m args below meth c Q (zM.getD y (0, 0, 0)).2.2 n0 s0 c'.2.1 c'.2.2.1 c'.2.2.2.1 c'.2.2.2.2) : c'.1 = y ∧ zW B xv D dA H0 p l e R s m args below meth c Q (zM.getD y (0, 0, 0)).2.2 n0 s0 pc ls st w := by
  unfold zast at hI
  split at hI
  · rename_i v j a r
    split at hI
    · rename_i ha
      split at hI
      · rename_i k vs hr
        split at hI
        · rename_i hok
          refine zs_go (fun kk H locs lsM hH hL hl => ?_) hI hk
          obtain ⟨cell, g1, g2⟩ := hH.2.2.2 a _ hr
          have hk100 := hkd k v hok.1
          obtain ⟨hvm, ⟨h13, -⟩ | ⟨hkind, hcls, hsl, -⟩⟩ := id g2
          · exact absurd h13 (by dsimp only; omega)
          · dsimp only at hkind hcls hsl
            obtain ⟨i, hi⟩ := ztys_get (dA := dA) hkind
            obtain ⟨-, kA, hkA, comp, hkdd⟩ := (hK.1.2 i _ hi).1 0 (fun _ => .null)
            have hsize : cell.slots.size = vs.length := by rw [hsl]; simp
            show W p l e R s m args below meth c H locs _ _ Q (F0 m pc lsM (zv B xv v :: .int j :: zv B xv (.ref a) :: r.map (zv B xv)))
            rw [zv_ref ha]
            refine row H locs lsM (B + a) k cell j v _ _ _ hH hok.1 g1 ⟨fun z h => (by rw [hvm] at h; cases h), kA, (by rw [hcls]; exact hkA), comp, hkdd⟩ hvm hcls hkind ?_ (fun H' e1 z o => ?_)
            · rintro (h | h)
              · exact hok.2.1 h
              · have := hok.2.2; omega
            · have hH' : zHR B xv D dA H0 (w.set a (k, vs.set j.toNatClampNeg (f v))) H' := hH.set hr e1 (by rw [← hf k v hok.1]; exact zarr_store g2 hk100 (hz k v hok.1)) z o
              have h2 := kk H' (locs ++ [⟨B + a, j.toNatClampNeg⟩]) lsM hH' hL (fun q hq => by
                rcases List.mem_append.mp hq with h | h
                · exact hl q h
                · rw [List.mem_singleton.mp h]; exact Nat.le_add_right _ _)
              rw [List.length_set, zsz_set hr (by simp)] at h2
              exact h2
        · cases hI
      · cases hI
    · cases hI
  · cases hI
end ZS
