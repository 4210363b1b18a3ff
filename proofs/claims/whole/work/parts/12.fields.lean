/-! fields, new cells, lengths, copies -/
section ZF
variable {B : Nat} {xv : Nat → Value} {D : va_G} {dA : Nat → ClassId} {H0 : Heap} {xs : Option (List Value)}
variable {p : Program} {l : Launch} {e : Env} {R : Room} {s : State} {m : MethodId} {args : Array Value} {below : List Frame} {meth : Method} {c : Code} {Q : State → Prop} {y n0 s0 : Nat}
/-- a String constant by its wide index -/
theorem zldcS {cc : ByteArray} {pc : Nat} {ls : Array Slot} {rest : List Value} {H : Heap} {locs : List Loc} {cells slots : Nat} (hexec : p.tables.exec = Jvm.exec) (hb : c.code = cc) {own tx : String} {index q : Nat} (hown : s.vm.findClass own = some m.cls) (hZ : vk_R own index tx q s) (hdg : decode cc pc = .ok (.ldc_w index, 3))
    (k : W p l e R s m args below meth c H locs cells slots Q (F0 m (pc + 3) ls (.ref q :: rest))) : W p l e R s m args below meth c H locs cells slots Q (F0 m pc ls rest) := by
  intro T hT X
  obtain ⟨t, a1, b1⟩ := k T hT X
  refine ⟨t, ?_, b1⟩
  obtain ⟨k, cf, i, a', hk, hcf, hcp, -, hr, hev'⟩ := Cond.stringRef_spec hown hZ.1
  cases hZ.2.symm.trans hev'
  obtain ⟨k', hk', he⟩ := X.warmed.alike.2.2 _ _ hk
  have hr' : k'.resolved[index]? = some (some (.string q)) := by
    rcases X.warmed.entry hk hk' index with h | ⟨h, -⟩
    · rw [h]; exact hr
    · rw [hr] at h; cases h
  jvm_step X.here [hexec, hb, hdg, ldc_w.wp_string (e := e) (s := T) (f := F0 m pc ls rest) X.here.top hk' (by rw [he]; exact hcf) hcp hr']
  exact a1
/-- getfield -/
theorem zs_getf {pc : Nat} {ls st : List Value} {w : zH} {c' : zC} {n : Nat} (hC : zCx B xv D dA H0 xs p R s m args meth c y) {k : Nat} {b : Bool} (hF : (zOw.getD y 0, k, n, b) ∈ zFL) (hd : decode (zCd.getD y ⟨#[]⟩) pc = .ok (.getfield k, 3)) (hI : zgetf xs n y pc ls st w = some (.inr (.inl c'))) (hk : zW B xv D dA H0 p l e R s m args below meth c Q (zM.getD y (0, 0, 0)).2.2 n0 s0 c'.2.1 c'.2.2.1 c'.2.2.2.1 c'.2.2.2.2) : c'.1 = y ∧ zW B xv D dA H0 p l e R s m args below meth c Q (zM.getD y (0, 0, 0)).2.2 n0 s0 pc ls st w := by
  obtain ⟨hx, hb, hml, hown, hts, hr, hlk, hin, hfr, hlo, hK⟩ := hC
  unfold zgetf at hI
  split at hI
  · rename_i a r
    split at hI
    · rename_i kc vs hrd
      split at hI
      · rename_i hkc
        split at hI
        · rename_i v hv
          refine zs_go (fun kk H locs lsM hH hL hl => ?_) hI hk
          show W p l e R s m args below meth c H locs _ _ Q (F0 m pc lsM (zv B xv (.ref a) :: r.map (zv B xv)))
          have hkk := kk H locs lsM hH hL hl
          by_cases ha : a < zX
          · rw [zv_ref ha]
            unfold zr at hrd
            rw [if_pos ha] at hrd
            obtain ⟨cell, g1, hvm, hc⟩ := hH.2.2.2 a _ hrd
            rcases zFL_world hF with ⟨C, T, N, h1, h2, h3, h4⟩ | ⟨-, h1, -⟩ | ⟨-, h1, -⟩
            · have hz := zvw h1
              rcases hc with ⟨c1, c2, c3, c4⟩ | ⟨c1, -, -⟩
              · dsimp only at c1 c2 c3 c4
                subst hkc
                obtain ⟨hS, hfc, kC, hkC, hkind⟩ := hK.1.1 (n / 100) _ h1
                obtain ⟨cf, kf, fi, f, hi, hsl⟩ := hS (n % 100) h2
                have hst := (u_facts hfc hkC (u_lays hts hz.2.2.1 h2) hi).1
                have hsv : cell.slots[f.slot]? = some (zv B xv v) := by rw [hsl]; exact c4 _ v hv
                cases b with
                | true => exact va_Wgetf hx hb hown (va_Nw.use rfl (hK.2.1 _ (h3 rfl))) hi hst g1 (by rw [hvm]; exact fun h => (by cases h)) hsv rfl rfl hd hkk
                | false => exact W.getf hx hb hown (hts _ (h4 rfl)) hi hst g1 (by rw [hvm]; exact fun h => (by cases h)) hsv rfl rfl hd hkk
              · dsimp only at c1
                have := hz.1
                rcases c1 with c1 | c1 | c1
                · omega
                · omega
                · have := zqk_ge c1; omega
            · have e : kc = 13 := by rw [hkc, h1]
              rcases hc with ⟨c1, -⟩ | ⟨c1, -, -⟩
              · dsimp only at c1; omega
              · dsimp only at c1
                rcases c1 with c1 | c1 | c1
                · omega
                · omega
                · have := zqk_ge c1; omega
            · have e : kc = 13 := by rw [hkc, h1]
              rcases hc with ⟨c1, -⟩ | ⟨c1, -, -⟩
              · dsimp only at c1; omega
              · dsimp only at c1
                rcases c1 with c1 | c1 | c1
                · omega
                · omega
                · have := zqk_ge c1; omega
          · have hzv : zv B xv (.ref a) = xv (a - zX) := by simp [zv, ha]
            unfold zr at hrd
            rw [if_neg ha] at hrd
            have hkc13 : kc = 13 := by
              rcases zFL_world hF with ⟨C, T, N, h1, -⟩ | ⟨-, h1, -⟩ | ⟨-, h1, -⟩
              · have := (zvw h1).1
                unfold zE at hrd
                split at hrd
                · cases hrd; rfl
                · split at hrd
                  · obtain ⟨l, -, hrd⟩ := Option.map_eq_some_iff.mp hrd
                    cases hrd; omega
                  · split at hrd
                    · cases hrd
                    · cases hs : zS[a - zX - 10]? with
                      | none => rw [hs] at hrd; cases hrd
                      | some str => rw [hs] at hrd; cases hrd; omega
              · rw [hkc, h1]
              · rw [hkc, h1]
            have hext : a - zX < 6 ∧ vs = [.ref (zX + 10 + (a - zX)), .int 0] := by
              unfold zE at hrd
              split at hrd
              · rename_i h6
                cases hrd
                exact ⟨h6, rfl⟩
              · split at hrd
                · obtain ⟨l, -, hrd⟩ := Option.map_eq_some_iff.mp hrd
                  cases hrd; omega
                · split at hrd
                  · cases hrd
                  · cases hs : zS[a - zX - 10]? with
                    | none => rw [hs] at hrd; cases hrd
                    | some str => rw [hs] at hrd; cases hrd; omega
            obtain ⟨h6, hvs⟩ := hext
            obtain ⟨-, ⟨adK, adV, hS, hxv, -⟩, -⟩ := hK.2.2.2
            have hkeep : ∀ q : Nat, q < H0.size → ¬ (fun q => B ≤ q) q → H[q]? = H0[q]? := fun q _ h => hH.2.2.1 q (Nat.lt_of_not_le h)
            rw [hzv, (hxv _ h6).1]
            rcases zFL_world hF with ⟨C, T, N, h1, -⟩ | ⟨hbf, h1, h2⟩ | ⟨hbf, h1, h2⟩
            · have := (zvw h1).1; omega
            · obtain ⟨cf, kf, fi, f, cell, f1, f2, f3, f4, f5, -⟩ := (hS.1 _ h6).2.2.1.kept hkeep
              have ev : zv B xv v = .ref (adV (a - zX)) := by
                subst h1; subst hvs
                cases hv
                rw [show zX + 10 + (a - zX) = zX + (10 + (a - zX)) by omega, zv_ext]
                exact (hxv _ h6).2
              have f5' : cell.slots[f.slot]? = some (zv B xv v) := by rw [ev]; exact f5
              exact W.getf hx hb hown (hts _ h2) f1 f2 f3 f4 f5' rfl rfl hd hkk
            · obtain ⟨cf, kf, fi, f, cell, f1, f2, f3, f4, f5, -⟩ := (hS.1 _ h6).2.1.kept hkeep
              have ev : zv B xv v = .int 0 := by
                subst h1; subst hvs
                cases hv
                rfl
              have f5' : cell.slots[f.slot]? = some (zv B xv v) := by rw [ev]; exact f5
              exact W.getf hx hb hown (hts _ h2) f1 f2 f3 f4 f5' rfl rfl hd hkk
        · cases hI
      · cases hI
    · cases hI
  · cases hI
theorem zv_fits (hx : ∀ i : Nat, xv i = .null ∨ ∃ a : Nat, xv i = .ref a) {ty : FieldType} {v : Value} (h : fits ty v = true) : fits ty (zv B xv v) = true := by
  cases v with
  | ref a =>
    rcases zv_isref (B := B) hx (v := .ref a) rfl with h1 | ⟨q, h1⟩ <;> rw [h1] <;> cases ty <;> first | rfl | exact h
  | _ => exact h
theorem zv_narrow (hx : ∀ i : Nat, xv i = .null ∨ ∃ a : Nat, xv i = .ref a) {ty : FieldType} {v : Value} (h : narrow ty v = v) : narrow ty (zv B xv v) = zv B xv v := by
  cases v with
  | ref a =>
    rcases zv_isref (B := B) hx (v := .ref a) rfl with h1 | ⟨q, h1⟩ <;> rw [h1] <;> cases ty <;> rfl
  | _ => exact h
/-- the cell behind a store into a field -/
theorem zobj_store {k j : Nat} {vs : List Value} {cell : Cell} {v : Value} {N : Nat} (hN : vs.length = N) (hap : ∀ a b, a < N → b < N → a ≠ b → D.2 k a ≠ D.2 k b) (h : zcell B xv D dA (k, vs) cell) (hk : k < 13) (hj : j < vs.length) : zcell B xv D dA (k, vs.set j v) (cell.setSlot (D.2 k j) (zv B xv v)) := by
  obtain ⟨hvm, ⟨h13, hlen, hcls, hsl⟩ | ⟨hkind, -, -⟩⟩ := h
  · refine ⟨hvm, Or.inl ⟨h13, by dsimp only at hlen ⊢; rw [List.length_set]; exact hlen, hcls, fun i u hi => ?_⟩⟩
    dsimp only at hsl hi ⊢
    have hi2 := (List.getElem?_eq_some_iff.mp hi).1
    rw [List.length_set] at hi2
    rw [List.getElem?_set] at hi
    simp only [Cell.setSlot]
    by_cases hij : j = i
    · subst hij
      rw [if_pos rfl, if_pos hj] at hi
      cases hi
      obtain ⟨u, hu⟩ : ∃ u, vs[j]? = some u := ⟨_, List.getElem?_eq_getElem hj⟩
      have := k2_hasslot (hsl j u hu)
      simp [this]
    · rw [if_neg hij] at hi
      have hne := hap j i (by omega) (by omega) hij
      rw [Array.getElem?_setIfInBounds_ne hne]
      exact hsl i u hi
  · dsimp only at hkind
    rcases hkind with h | h | h
    · omega
    · omega
    · have := zqk_ge h; omega
/-- putfield -/
theorem zs_putf {pc : Nat} {ls st : List Value} {w : zH} {c' : zC} {n : Nat} (hC : zCx B xv D dA H0 xs p R s m args meth c y) {k : Nat} {b : Bool} (hF : (zOw.getD y 0, k, n, b) ∈ zFL) (hn : n < 1300) (hfin : zfin n = true → b = false ∧ (zN.getD y objectInit).name = "<init>" ∧ n / 100 = zOw.getD y 0) (hd : decode (zCd.getD y ⟨#[]⟩) pc = .ok (.putfield k, 3)) (hI : zputf n y pc ls st w = some (.inr (.inl c'))) (hk : zW B xv D dA H0 p l e R s m args below meth c Q (zM.getD y (0, 0, 0)).2.2 n0 s0 c'.2.1 c'.2.2.1 c'.2.2.2.1 c'.2.2.2.2) : c'.1 = y ∧ zW B xv D dA H0 p l e R s m args below meth c Q (zM.getD y (0, 0, 0)).2.2 n0 s0 pc ls st w := by
  obtain ⟨hx, hb, hml, hown, hts, hr, hlk, hin, hfr, hlo, hK⟩ := hC
  have hxv := hK.2.2.2.1
  unfold zputf at hI
  split at hI
  · rename_i v a r
    split at hI
    · rename_i ha
      split at hI
      · rename_i kc vs hrd
        split at hI
        · rename_i hok
          obtain ⟨hkc, hj, hft, hnr⟩ := hok
          refine zs_go (fun kk H locs lsM hH hL hl => ?_) hI hk
          show W p l e R s m args below meth c H locs _ _ Q (F0 m pc lsM (zv B xv v :: zv B xv (.ref a) :: r.map (zv B xv)))
          rw [zv_ref ha]
          obtain ⟨cell, g1, g2⟩ := hH.2.2.2 a _ hrd
          rcases zFL_world hF with ⟨C, T, N, h1, h2, h3, h4⟩ | ⟨-, h1, -⟩ | ⟨-, h1, -⟩
          · have hz := zvw h1
            obtain ⟨hvm, ⟨c1, c2, c3, c4⟩ | ⟨c1, -, -⟩⟩ := id g2
            · dsimp only at c1 c2 c3 c4
              subst hkc
              have hap := va_apart (own := zO.getD (zOw.getD y 0) "") (ci := n / 100) hts hz.2.2.1 (fun j => zfty (100 * (n / 100) + j)) hz.2.2.2.2.1 hz.2.2.2.1 hK.1 h1
              obtain ⟨hS, hfc, kC, hkC, hkind⟩ := hK.1.1 (n / 100) _ h1
              obtain ⟨cf, kf, fi, f, hi, hsl⟩ := hS (n % 100) h2
              have hst := (u_facts hfc hkC (u_lays hts hz.2.2.1 h2) hi).1
              have hty := hz.2.2.2.2.1 (n % 100) h2
              rw [show 100 * (n / 100) + n % 100 = n by omega] at hty
              obtain ⟨u, hu⟩ : ∃ u, vs[n % 100]? = some u := ⟨_, List.getElem?_eq_getElem hj⟩
              have hlt : f.slot < cell.slots.size := by rw [hsl]; exact k2_hasslot (c4 _ u hu)
              have hlay := hts _ (hz.2.2.1 _ (u_in_lay h2))
              have goal : ∀ H' : Heap, H'[B + a]? = some (cell.setSlot f.slot (zv B xv v)) → H'.size = H.size → (∀ q, q ≠ B + a → H'[q]? = H[q]?) → W p l e R s m args below meth c H' (locs ++ [⟨B + a, f.slot⟩]) (w.length - n0) (zsz w - s0) Q (F0 m (pc + 3) lsM (r.map (zv B xv))) := by
                intro H' e1 z o
                rw [hsl] at e1
                have hH' : zHR B xv D dA H0 (w.set a (n / 100, vs.set (n % 100) v)) H' := hH.set hrd e1 (zobj_store (by rw [c2]; exact hz.2.1.symm) hap g2 c1 hj) z o
                have h2 := kk H' (locs ++ [⟨B + a, f.slot⟩]) lsM hH' hL (fun q hq => by
                  rcases List.mem_append.mp hq with h | h
                  · exact hl q h
                  · rw [List.mem_singleton.mp h]; exact Nat.le_add_right _ _)
                rw [List.length_set, zsz_set hrd (by simp)] at h2
                exact h2
              unfold u_lay at hlay
              cases hfn : (T (n % 100)).2.2.2 with
              | true =>
                have hzf : zfin n = true := by unfold zfin; rw [h1]; exact hfn
                obtain ⟨hb0, hini, hown2⟩ := hfin hzf
                subst hb0
                rw [if_pos hfn] at hlay
                have hcf : m.cls = cf := by
                  obtain ⟨_, _, c', _, _, _, -, -, hf', -, -, -, hown3, -⟩ := Cond.laysFinal_spec hlay
                  have e1 : c' = cf := by have := hi.symm.trans hf'; simp at this; exact this.1.symm
                  have e2 : (T (n % 100)).1 = zO.getD (zOw.getD y 0) "" := by rw [hz.2.2.2.2.2.2.2.2.2 _ h2, ← hown2, hz.2.2.2.2.2.2.2.2.1]
                  rw [e2] at hown3
                  rw [← e1]
                  exact Option.some.inj (hown.symm.trans hown3)
                have h6 := u_fits hfc hkC hkind (Or.inr hlay) hi hty (zv_narrow (B := B) hxv hnr) (zv_fits (B := B) hxv hft)
                exact W.putFinK hx hb hown (hts _ (h4 rfl)) hi hst hcf (hin hini) (by rw [c3]; exact h6) g1 hvm hlt rfl rfl hd goal
              | false =>
                rw [if_neg (by rw [hfn]; decide)] at hlay
                have h6 := u_store hfc hkC hkind hlay hi hty (zv_narrow (B := B) hxv hnr) (zv_fits (B := B) hxv hft)
                cases b with
                | true => exact va_WputK hx hb (f := f) hown (va_Nw.use rfl (hK.2.1 _ (h3 rfl))) hi hst (by rw [c3]; exact h6) g1 hvm hlt rfl rfl hd goal
                | false => exact W.putK hx hb (f := f) ⟨hown, hts _ (h4 rfl), ⟨_, _, _, hi⟩, hst⟩ (by rw [c3]; exact h6) g1 hvm hlt rfl rfl hd goal
            · dsimp only at c1
              have := hz.1
              rcases c1 with c1 | c1 | c1
              · omega
              · omega
              · have := zqk_ge c1; omega
          · omega
          · omega
        · cases hI
      · cases hI
    · cases hI
  · cases hI
end ZF
