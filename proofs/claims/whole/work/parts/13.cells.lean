/-! new cells, lengths, copies; what goes on, what ends -/
section ZN
variable {B : Nat} {xv : Nat → Value} {D : va_G} {dA : Nat → ClassId} {H0 : Heap} {xs : Option (List Value)}
variable {p : Program} {l : Launch} {e : Env} {R : Room} {s : State} {m : MethodId} {args : Array Value} {below : List Frame} {meth : Method} {c : Code} {Q : State → Prop} {y n0 s0 : Nat}
theorem zv_default {ty : FieldType} : zv B xv (defaultValue ty) = defaultValue ty := by
  cases ty <;> rfl
theorem znew_len {k : Nat} : (znew k).length = znf.getD k 0 := by simp [znew]
theorem zs_new {pc : Nat} {ls st : List Value} {w : zH} {c' : zC} {n : Nat} (hC : zCx B xv D dA H0 xs p R s m args meth c y) {k : Nat} (hF : (zOw.getD y 0, k, n) ∈ zCL) (hd : decode (zCd.getD y ⟨#[]⟩) pc = .ok (.new k, 3)) (hn0 : n0 ≤ w.length) (hs0 : s0 ≤ zsz w) (hI : znw (n, znew n) 3 y pc ls st w = some (.inr (.inl c'))) (hR : c'.2.2.2.2.length - n0 ≤ R.cells ∧ zsz c'.2.2.2.2 - s0 ≤ R.slots) (hk : zW B xv D dA H0 p l e R s m args below meth c Q (zM.getD y (0, 0, 0)).2.2 n0 s0 c'.2.1 c'.2.2.1 c'.2.2.2.1 c'.2.2.2.2) : c'.1 = y ∧ zW B xv D dA H0 p l e R s m args below meth c Q (zM.getD y (0, 0, 0)).2.2 n0 s0 pc ls st w := by
  obtain ⟨hx, hb, hml, hown, hts, hr, hlk, hin, hfr, hlo, hK⟩ := hC
  obtain ⟨C, T, N, h1, h2⟩ := zCL_get hF
  have hz := zvw h1
  have hlenN : (znew n).length = N := by rw [znew_len]; exact hz.2.1.symm
  unfold znw at hI
  split at hI
  · rename_i hlt
    have hc' : c' = (y, pc + 3, ls, .ref w.length :: st, w ++ [(n, znew n)]) := by unfold zgo at hI; cases hI; rfl
    refine zs_go (fun kk H locs lsM hH hL hl => ?_) hI hk
    rw [hc'] at hR
    dsimp only at hR
    rw [zsz_push, List.length_append, List.length_singleton, hlenN] at hR
    have hKn := hK.1.1 n _ h1
    refine W.newcK hx hb hown (hts _ h2) (hts _ hz.2.2.2.2.2.1) (hts _ hz.2.2.2.2.2.2.1) rfl hd (by omega) (by omega) hKn.2.1 rfl fun H1 kC hkC e1 z1 o1 => ?_
    obtain ⟨cell, b1, b2, b3, b4⟩ := u_born (o := H.size) (fun j => zfty (100 * n + j)) hts hz.2.2.1 hKn hkC e1 hz.2.2.2.2.1
    have hcell : zcell B xv D dA (n, znew n) cell := by
      refine ⟨b3, Or.inl ⟨hz.1, znew_len, b2, fun j v hj => ?_⟩⟩
      have hj2 : j < N := by rw [← hlenN]; exact (List.getElem?_eq_some_iff.mp hj).1
      rw [b4 j hj2]
      dsimp only at hj
      unfold znew at hj
      rw [List.getElem?_map, List.getElem?_range (by rw [← hz.2.1]; exact hj2)] at hj
      cases hj
      rw [zv_default]
    have h3 := kk H1 locs lsM (hH.push b1 hcell z1 o1) hL hl
    rw [zsz_push, List.length_append, List.length_singleton, hlenN] at h3
    have hsz : H.size = B + w.length := hH.1
    have e5 : List.map (zv B xv) (.ref w.length :: st) = .ref H.size :: List.map (zv B xv) st := by
      rw [List.map_cons, zv_ref (by omega), hsz]
    rw [e5] at h3
    exact W.cs (by omega) (by omega) h3
  · cases hI
theorem zs_newa {pc : Nat} {ls st : List Value} {w : zH} {c' : zC} {atype : ArrayType} {k : Nat} {v0 : Value} (hC : zCx B xv D dA H0 xs p R s m args meth c y) (hk01 : (atype = .int ∧ k = 100 ∧ v0 = .int 0) ∨ (atype = .char ∧ k = 101 ∧ v0 = .int 0)) (hd : decode (zCd.getD y ⟨#[]⟩) pc = .ok (.newarray atype, 2)) (hn0 : n0 ≤ w.length) (hs0 : s0 ≤ zsz w) (hw : ∀ ty, ty = .int ∨ ty = .char → Cond.arrayClass ty ∈ zG) (hI : znwa k v0 2 y pc ls st w = some (.inr (.inl c'))) (hR : c'.2.2.2.2.length - n0 ≤ R.cells ∧ zsz c'.2.2.2.2 - s0 ≤ R.slots) (hk : zW B xv D dA H0 p l e R s m args below meth c Q (zM.getD y (0, 0, 0)).2.2 n0 s0 c'.2.1 c'.2.2.1 c'.2.2.2.1 c'.2.2.2.2) : c'.1 = y ∧ zW B xv D dA H0 p l e R s m args below meth c Q (zM.getD y (0, 0, 0)).2.2 n0 s0 pc ls st w := by
  obtain ⟨hx, hb, hml, hown, hts, hr, hlk, hin, hfr, hlo, hK⟩ := hC
  unfold znwa at hI
  split at hI
  · rename_i n r
    split at hI
    · rename_i hn
      unfold znw at hI
      split at hI
      · rename_i hlt
        have hc' : c' = (y, pc + 2, ls, .ref w.length :: r, w ++ [(k, List.replicate n.toNatClampNeg v0)]) := by unfold zgo at hI; cases hI; rfl
        refine zs_go (fun kk H locs lsM hH hL hl => ?_) hI hk
        rw [hc'] at hR
        dsimp only at hR
        rw [zsz_push, List.length_append, List.length_singleton, List.length_replicate] at hR
        have hnn : n.toNatClampNeg ≤ 65536 := by
          have h1 := Int32.le_iff_toInt_le.mp hn.2
          have h2 : ((65536 : Int32)).toInt = 65536 := by decide
          rw [h2] at h1
          show n.toInt.toNat ≤ 65536
          omega
        have hty : newarray.typeOf atype = zkt k ∧ defaultValue (newarray.typeOf atype) = v0 ∧ (newarray.typeOf atype = .int ∨ newarray.typeOf atype = .char) ∧ componentBytes (newarray.typeOf atype) ≤ 4 ∧ (k = 100 ∨ k = 101 ∨ k ∈ zqk) ∧ zv B xv v0 = v0 ∧ zint v0 = true := by
          rcases hk01 with ⟨rfl, rfl, rfl⟩ | ⟨rfl, rfl, rfl⟩
          · exact ⟨rfl, rfl, Or.inl rfl, by decide, Or.inl rfl, rfl, rfl⟩
          · exact ⟨rfl, rfl, Or.inr rfl, by decide, Or.inr (Or.inl rfl), rfl, rfl⟩
        obtain ⟨t1, t2, t3, t4, t5, t6, t7⟩ := hty
        refine W.newa hx hb (hts _ (hw _ t3)) rfl hd rfl hn.1 ?_ (by omega) (by omega) fun cA kA comp f1 f2 f3 => ?_
        · exact Nat.le_trans (Nat.mul_le_mul hnn t4) (by decide)
        · generalize hH1 : H.push ({ cls := cA, slots := Array.replicate n.toNatClampNeg (defaultValue (newarray.typeOf atype)), vm := .none } : Cell) = H1
          have z1 : H1.size = H.size + 1 := by rw [← hH1, Array.size_push]
          have e1 : H1[H.size]? = some ({ cls := cA, slots := Array.replicate n.toNatClampNeg (defaultValue (newarray.typeOf atype)), vm := .none } : Cell) := by rw [← hH1, Array.getElem?_push_size]
          have o1 : ∀ q : Nat, q < H.size → H1[q]? = H[q]? := fun q hq => by rw [← hH1, Array.getElem?_push, if_neg (Nat.ne_of_lt hq)]
          have hcls : cA = dA k := by
            obtain ⟨i, hi⟩ := ztys_get (dA := dA) t5
            have hra := (hK.1.2 i _ hi).2
            rw [t1] at f1
            have hra2 : s.vm.findClass ("[" ++ (zkt k).toString) = some (dA k) := by
              rcases hk01 with ⟨rfl, rfl, rfl⟩ | ⟨rfl, rfl, rfl⟩ <;> exact hra
            exact Option.some.inj (f1.symm.trans hra2)
          have hcell : zcell B xv D dA (k, List.replicate n.toNatClampNeg v0) ({ cls := cA, slots := Array.replicate n.toNatClampNeg (defaultValue (newarray.typeOf atype)), vm := .none } : Cell) := by
            refine ⟨rfl, Or.inr ⟨t5, hcls, ?_, fun _ u hu => ?_⟩⟩
            · dsimp only
              rw [t2, List.map_replicate, t6]
              simp
            · rw [(List.mem_replicate.mp hu).2]; exact t7
          have h3 := kk H1 locs lsM (hH.push e1 hcell z1 o1) hL hl
          rw [zsz_push, List.length_append, List.length_singleton, List.length_replicate] at h3
          have hsz : H.size = B + w.length := hH.1
          have e5 : List.map (zv B xv) (.ref w.length :: r) = .ref H.size :: List.map (zv B xv) r := by
            rw [List.map_cons, zv_ref (by omega), hsz]
          rw [e5] at h3
          exact W.cs (by omega) (by omega) h3
      · cases hI
    · cases hI
  · cases hI
theorem zs_anew {pc : Nat} {ls st : List Value} {w : zH} {c' : zC} {k n : Nat} (hC : zCx B xv D dA H0 xs p R s m args meth c y) (hF : (zOw.getD y 0, k, n - 200) ∈ zCL) (hq : n ∈ zqk) (hd : decode (zCd.getD y ⟨#[]⟩) pc = .ok (.anewarray k, 3)) (hn0 : n0 ≤ w.length) (hs0 : s0 ≤ zsz w) (hI : znwa n .null 3 y pc ls st w = some (.inr (.inl c'))) (hR : c'.2.2.2.2.length - n0 ≤ R.cells ∧ zsz c'.2.2.2.2 - s0 ≤ R.slots) (hk : zW B xv D dA H0 p l e R s m args below meth c Q (zM.getD y (0, 0, 0)).2.2 n0 s0 c'.2.1 c'.2.2.1 c'.2.2.2.1 c'.2.2.2.2) : c'.1 = y ∧ zW B xv D dA H0 p l e R s m args below meth c Q (zM.getD y (0, 0, 0)).2.2 n0 s0 pc ls st w := by
  obtain ⟨hx, hb, hml, hown, hts, hr, hlk, hin, hfr, hlo, hK⟩ := hC
  obtain ⟨C, T, N, h1, h2⟩ := zCL_get hF
  have hz := zvw h1
  have hzo : zO.getD (n - 200) "" = C := hz.2.2.2.2.2.2.2.2.1
  unfold znwa at hI
  split at hI
  · rename_i j r
    split at hI
    · rename_i hn
      unfold znw at hI
      split at hI
      · rename_i hlt
        have hc' : c' = (y, pc + 3, ls, .ref w.length :: r, w ++ [(n, List.replicate j.toNatClampNeg .null)]) := by unfold zgo at hI; cases hI; rfl
        refine zs_go (fun kk H locs lsM hH hL hl => ?_) hI hk
        rw [hc'] at hR
        dsimp only at hR
        rw [zsz_push, List.length_append, List.length_singleton, List.length_replicate] at hR
        have hnn : j.toNatClampNeg ≤ 65536 := by
          have h1 := Int32.le_iff_toInt_le.mp hn.2
          have h2 : ((65536 : Int32)).toInt = 65536 := by decide
          rw [h2] at h1
          show j.toInt.toNat ≤ 65536
          omega
        have hao := hK.2.2.1 n hq
        rw [hzo] at hao
        refine W.anew hx hb hown (hts _ h2) (va_AO.use hao) rfl hd rfl hn.1 (by omega) (by omega) (by omega) fun cA kA comp f1 f2 f3 f4 => ?_
        generalize hH1 : H.push ({ cls := cA, slots := Array.replicate j.toNatClampNeg .null, vm := .none } : Cell) = H1
        have z1 : H1.size = H.size + 1 := by rw [← hH1, Array.size_push]
        have e1 : H1[H.size]? = some ({ cls := cA, slots := Array.replicate j.toNatClampNeg .null, vm := .none } : Cell) := by rw [← hH1, Array.getElem?_push_size]
        have o1 : ∀ q : Nat, q < H.size → H1[q]? = H[q]? := fun q hq => by rw [← hH1, Array.getElem?_push, if_neg (Nat.ne_of_lt hq)]
        have hkt : zkt n = .object C := by
          have := zqk_ge hq
          unfold zkt
          rw [if_neg (by omega), if_neg (by omega), if_neg (by omega), hzo]
        have hcls : cA = dA n := by
          obtain ⟨i, hi⟩ := ztys_get (dA := dA) (Or.inr (Or.inr hq))
          have hra := (hK.1.2 i _ hi).2
          rw [hkt] at hra
          obtain ⟨_, _, -, -, -, hra2⟩ := hra
          exact Option.some.inj (f1.symm.trans hra2)
        have hcell : zcell B xv D dA (n, List.replicate j.toNatClampNeg .null) ({ cls := cA, slots := Array.replicate j.toNatClampNeg .null, vm := .none } : Cell) := by
          refine ⟨rfl, Or.inr ⟨Or.inr (Or.inr hq), hcls, ?_, fun h => ?_⟩⟩
          · dsimp only
            rw [List.map_replicate, zv_null]
            simp
          · have := zqk_ge hq
            dsimp only at h
            omega
        have h3 := kk H1 locs lsM (hH.push e1 hcell z1 o1) hL hl
        rw [zsz_push, List.length_append, List.length_singleton, List.length_replicate] at h3
        have hsz : H.size = B + w.length := hH.1
        have e5 : List.map (zv B xv) (.ref w.length :: r) = .ref H.size :: List.map (zv B xv) r := by
          rw [List.map_cons, zv_ref (by omega), hsz]
        rw [e5] at h3
        exact W.cs (by omega) (by omega) h3
      · cases hI
    · cases hI
  · cases hI
theorem zs_alen {pc : Nat} {ls r : List Value} {w : zH} {c' : zC} {a k : Nat} {vs : List Value} (hC : zCx B xv D dA H0 xs p R s m args meth c y) (hd : decode (zCd.getD y ⟨#[]⟩) pc = .ok (.arraylength, 1)) (hr : zr xs w a = some (k, vs)) (hk100 : 100 ≤ k) (hI : zgo y (pc + 1) ls (.int (Int32.ofNat vs.length) :: r) w = some (.inr (.inl c'))) (hk : zW B xv D dA H0 p l e R s m args below meth c Q (zM.getD y (0, 0, 0)).2.2 n0 s0 c'.2.1 c'.2.2.1 c'.2.2.2.1 c'.2.2.2.2) : c'.1 = y ∧ zW B xv D dA H0 p l e R s m args below meth c Q (zM.getD y (0, 0, 0)).2.2 n0 s0 pc ls (.ref a :: r) w := by
  obtain ⟨hx, hb, hml, hown, hts, hrt, hlk, hin, hfr, hlo, hK⟩ := hC
  refine zs_go (fun kk H locs lsM hH hL hl => ?_) hI hk
  obtain ⟨q, cell, g1, g2, g3, g4, g5, g6, g7⟩ := zarr hK hH hr hk100
  show W p l e R s m args below meth c H locs _ _ Q (F0 m pc lsM (zv B xv (.ref a) :: r.map (zv B xv)))
  rw [g1]
  exact W.alen hx hb g2 g3 g6 rfl rfl hd (kk H locs lsM hH hL hl)
theorem zs_acp {pc : Nat} {ls st : List Value} {w : zH} {c' : zC} (hC : zCx B xv D dA H0 xs p R s m args meth c y) {k : Nat} (hF : (zOw.getD y 0, k) ∈ zAC) (hfr1 : 1 ≤ (zF.getD y (0, 0)).1) (hlo1 : 8 + (nativeFrameWords "java/lang/System" "arraycopy" 5 + 11) ≤ (zF.getD y (0, 0)).2) (hd : decode (zCd.getD y ⟨#[]⟩) pc = .ok (.invokestatic k, 3)) (hI : zacp y pc ls st w = some (.inr (.inl c'))) (hk : zW B xv D dA H0 p l e R s m args below meth c Q (zM.getD y (0, 0, 0)).2.2 n0 s0 c'.2.1 c'.2.2.1 c'.2.2.2.1 c'.2.2.2.2) : c'.1 = y ∧ zW B xv D dA H0 p l e R s m args below meth c Q (zM.getD y (0, 0, 0)).2.2 n0 s0 pc ls st w := by
  obtain ⟨hx, hb, hml, hown, hts, hrt, hlk, hin, hfr, hlo, hK⟩ := hC
  obtain ⟨q, hq⟩ := zAC_ok _ hF
  have hlink := hts _ (zin_G hq)
  unfold zacp at hI
  split at hI
  · rename_i n dp b sp a r
    split at hI
    · rename_i hok
      obtain ⟨ha, hb2, h1, h2, h3, h4⟩ := hok
      split at hI
      · rename_i f g hf hg
        split at hI
        · rename_i h5
          refine zs_go (fun kk H locs lsM hH hL hl => ?_) hI hk
          obtain ⟨cs, s1, s2⟩ := hH.2.2.2 a _ hf
          obtain ⟨cd, d1, d2⟩ := hH.2.2.2 b _ hg
          obtain ⟨svm, ⟨s13, -⟩ | ⟨sk, scls, ssl, sint⟩⟩ := id s2
          · exact absurd s13 (by dsimp only; omega)
          obtain ⟨dvm, ⟨d13, -⟩ | ⟨dk, dcls, dsl, dint⟩⟩ := id d2
          · exact absurd d13 (by dsimp only; omega)
          dsimp only at scls ssl sint dcls dsl dint
          obtain ⟨-, kA, hkA, comp, hkd⟩ := (hK.1.2 0 _ rfl).1 0 (fun _ => .null)
          have nn : ∀ z : Int32, ¬ z < 0 → z.toInt = (z.toNatClampNeg : Int) := by
            intro z hz
            have hz0 : (0 : Int) ≤ z.toInt := by
              have := Int32.not_lt.mp hz
              simpa using Int32.le_iff_toInt_le.mp this
            show z.toInt = ((z.toInt.toNat : Nat) : Int)
            omega
          have ssz : cs.slots.size = f.length := by rw [ssl]; simp
          have dsz : cd.slots.size = g.length := by rw [dsl]; simp
          show W p l e R s m args below meth c H locs _ _ Q (F0 m pc lsM (.int n :: .int dp :: zv B xv (.ref b) :: .int sp :: zv B xv (.ref a) :: r.map (zv B xv)))
          rw [zv_ref ha, zv_ref hb2]
          have hgetd : ∀ i : Nat, i < n.toNatClampNeg → ∃ u : Int32, cs.slots.getD (sp.toNatClampNeg + i) .null = .int u ∧ f[sp.toNatClampNeg + i]? = some (.int u) := by
            intro i hi
            have hlt : sp.toNatClampNeg + i < f.length := by omega
            have hfi := List.getElem?_eq_getElem hlt
            have hm := sint rfl _ (List.getElem_mem hlt)
            cases hu : f[sp.toNatClampNeg + i] with
            | int u =>
              refine ⟨u, ?_, by rw [hfi, hu]⟩
              rw [Array.getD_eq_getD_getElem?, ssl, List.getElem?_toArray, List.getElem?_map, hfi, hu]
              rfl
            | _ => rw [hu] at hm; cases hm
          intro T hT X
          obtain ⟨vm', X', step⟩ := X.arraycopy hx hown hlink (hts _ zw_an) (hts _ zw_as) (hts _ zw_ai) (src := B + a) (dst := B + b) (cs := cs) (cd := cd) (srcPos := sp) (destPos := dp) (n := n) (by rw [hT]; exact s1) (by rw [hT]; exact d1)
            (fun _ h => by rw [svm] at h; cases h) (fun _ h => by rw [dvm] at h; cases h) (fun h => by rw [svm] at h; cases h) (fun h => by rw [dvm] at h; cases h) (by rw [scls]; exact hkA) (by rw [dcls]; exact hkA) hkd hkd rfl h1 h2 h3
            (by rw [nn sp h1, nn n h3, ssz]; omega) (by rw [nn dp h2, nn n h3, dsz]; omega)
            (fun vm₁ _ i hi => by
              obtain ⟨u, hu, -⟩ := hgetd i hi
              rw [hu]
              exact ⟨rfl, trivial⟩)
            (g := F0 m pc lsM (.int n :: .int dp :: .ref (B + b) :: .int sp :: .ref (B + a) :: r.map (zv B xv))) rfl (by rw [hml, ← hL.1]) (rest := r.map (zv B xv)) rfl (by rw [hb]; exact hd) (by rw [hfr]; exact hfr1) (by
              have hc : ((r.map (zv B xv)).map fun v => v.category).sum = zcat r := zv_cats hK.2.2.2.1 r
              show 2 * 0 + _ + _ ≤ _
              rw [hc, hlo]
              omega)
          have hstr : (cs.stretch sp.toNatClampNeg n.toNatClampNeg).length = n.toNatClampNeg := by unfold Cell.stretch; simp
          have hsl : (copied cs cd sp dp n).slots = ((zcpy f g sp.toNatClampNeg dp.toNatClampNeg n.toNatClampNeg).map (zv B xv)).toArray := by
            apply Array.ext_getElem?
            intro j
            have hrr : (((zcpy f g sp.toNatClampNeg dp.toNatClampNeg n.toNatClampNeg).map (zv B xv)).toArray)[j]? = ((zcpy f g sp.toNatClampNeg dp.toNatClampNeg n.toNatClampNeg)[j]?).map (zv B xv) := by rw [List.getElem?_toArray, List.getElem?_map]
            rw [Cell.storeRun_get cd _ _ j (by rw [hstr, dsz]; omega), hstr, hrr]
            unfold zcpy
            rw [List.getElem?_map]
            by_cases hj : dp.toNatClampNeg ≤ j ∧ j < dp.toNatClampNeg + n.toNatClampNeg
            · rw [if_pos hj, List.getElem?_range (by omega)]
              obtain ⟨u, hu1, hu2⟩ := hgetd (j - dp.toNatClampNeg) (by omega)
              unfold Cell.stretch
              rw [List.getElem?_map, List.getElem?_range (by omega)]
              simp only [Option.map_some, if_pos hj]
              rw [hu1, List.getD_eq_getElem?_getD, hu2]
              rfl
            · rw [if_neg hj, dsl, List.getElem?_toArray, List.getElem?_map]
              by_cases hjl : j < g.length
              · rw [List.getElem?_range hjl]
                simp only [Option.map_some, if_neg hj]
                rw [List.getD_eq_getElem?_getD, List.getElem?_eq_getElem hjl]
                rfl
              · have hn1 : g[j]? = none := List.getElem?_eq_none (by omega)
                have hn2 : (List.range g.length)[j]? = none := List.getElem?_eq_none (by rw [List.length_range]; omega)
                rw [hn1, hn2]
                rfl
          have hcell : zcell B xv D dA (100, zcpy f g sp.toNatClampNeg dp.toNatClampNeg n.toNatClampNeg) (copied cs cd sp dp n) := by
            have hfa := Cell.storeRun_facts cd dp.toNatClampNeg (cs.stretch sp.toNatClampNeg n.toNatClampNeg)
            refine ⟨hfa.2.1.trans dvm, Or.inr ⟨Or.inl rfl, hfa.1.trans dcls, hsl, fun _ u hu => ?_⟩⟩
            unfold zcpy at hu
            obtain ⟨j, hj, hju⟩ := List.mem_map.mp hu
            have hjl := List.mem_range.mp hj
            rw [← hju]
            by_cases hj2 : dp.toNatClampNeg ≤ j ∧ j < dp.toNatClampNeg + n.toNatClampNeg
            · rw [if_pos hj2]
              obtain ⟨u, -, hu2⟩ := hgetd (j - dp.toNatClampNeg) (by omega)
              rw [List.getD_eq_getElem?_getD, hu2]
              rfl
            · rw [if_neg hj2, List.getD_eq_getElem?_getD, List.getElem?_eq_getElem hjl]
              exact dint rfl _ (List.getElem_mem hjl)
          have hbl : B + b < H.size := (Array.getElem?_eq_some_iff.mp d1).1
          have hheap : ((T.setVm vm').setCell (B + b) (copied cs cd sp dp n)).heap = H.setIfInBounds (B + b) (copied cs cd sp dp n) := by rw [← hT]; rfl
          have hH' : zHR B xv D dA H0 (w.set b (100, zcpy f g sp.toNatClampNeg dp.toNatClampNeg n.toNatClampNeg)) (H.setIfInBounds (B + b) (copied cs cd sp dp n)) :=
            hH.set hg (by simp [hbl]) hcell (by simp) (fun q hq => by simp [Array.getElem?_setIfInBounds, Ne.symm hq])
          have h3 := kk _ (locs ++ (cs.stretch sp.toNatClampNeg n.toNatClampNeg).zipIdx.map fun q => ⟨B + b, dp.toNatClampNeg + q.2⟩) lsM hH' hL (fun q hq => by
            rcases List.mem_append.mp hq with h | h
            · exact hl q h
            · obtain ⟨z, -, hz⟩ := List.mem_map.mp h
              rw [← hz]
              exact Nat.le_add_right _ _)
          rw [List.length_set, zsz_set hg (by simp [zcpy])] at h3
          obtain ⟨t, a1, b1⟩ := h3 _ hheap X'
          exact ⟨t, step t a1, b1⟩
        · cases hI
      · cases hI
    · cases hI
  · cases hI
theorem zs_oi {pc : Nat} {ls r : List Value} {w : zH} {c' : zC} {a : Nat} (hC : zCx B xv D dA H0 xs p R s m args meth c y) {k : Nat} (hF : (zOw.getD y 0, k) ∈ zOI) (hfr1 : 1 ≤ (zF.getD y (0, 0)).1) (hlo1 : 20 ≤ (zF.getD y (0, 0)).2) (hd : decode (zCd.getD y ⟨#[]⟩) pc = .ok (.invokespecial k, 3)) (hcat : zcat r ≤ 8) (ha : a < zX) (hI : zgo y (pc + 3) ls r w = some (.inr (.inl c'))) (hk : zW B xv D dA H0 p l e R s m args below meth c Q (zM.getD y (0, 0, 0)).2.2 n0 s0 c'.2.1 c'.2.2.1 c'.2.2.2.1 c'.2.2.2.2) : c'.1 = y ∧ zW B xv D dA H0 p l e R s m args below meth c Q (zM.getD y (0, 0, 0)).2.2 n0 s0 pc ls (.ref a :: r) w := by
  obtain ⟨hx, hb, hml, hown, hts, hrt, hlk, hin, hfr, hlo, hK⟩ := hC
  obtain ⟨q, hq⟩ := zOI_ok _ hF
  refine zs_go (fun kk H locs lsM hH hL hl => ?_) hI hk
  show W p l e R s m args below meth c H locs _ _ Q (F0 m pc lsM (zv B xv (.ref a) :: r.map (zv B xv)))
  rw [zv_ref ha]
  refine W.objInit hx hb hown (hts _ (zin_G hq)) (hts _ zw_oi) (hts _ zw_oc) rfl (by rw [hml, ← hL.1]) rfl hd (by rw [hfr]; exact hfr1) ?_ (kk H locs lsM hH hL hl)
  have hc : ((r.map (zv B xv)).map fun v => v.category).sum = zcat r := zv_cats hK.2.2.2.1 r
  show 2 * 0 + _ + _ ≤ _
  rw [hc, hlo]
  omega
end ZN
