/-! EVERY INSTRUCTION THAT GOES ON -/
set_option maxRecDepth 100000 in
theorem zif_ok : (zT.all fun t => t.all fun e => match e.2 with
    | .ifCond _ o => decide (0 ≤ (e.1 : Int) + o)
    | .if_icmp _ o => decide (0 ≤ (e.1 : Int) + o)
    | _ => true) = true := by decide +kernel
theorem zP_mem {y pc : Nat} {i : Instr} (h : zP y pc = some i) : ∃ t ∈ zT, (pc, i) ∈ t := by
  unfold zP at h
  have hm := zlookup h
  cases ht : zT[y]? with
  | none => rw [List.getD_eq_getElem?_getD, ht] at hm; simp at hm
  | some t =>
    rw [List.getD_eq_getElem?_getD, ht] at hm
    exact ⟨t, List.mem_of_getElem? ht, hm⟩
theorem zP_if {y pc : Nat} {cn : Jvm.ClassFile.Cond} {o : Int} (h : zP y pc = some (.ifCond cn o)) : 0 ≤ (pc : Int) + o := by
  obtain ⟨t, h1, h2⟩ := zP_mem h
  have := List.all_eq_true.mp (List.all_eq_true.mp zif_ok t h1) _ h2
  simpa using this
theorem zP_icmp {y pc : Nat} {cn : Jvm.ClassFile.Cond} {o : Int} (h : zP y pc = some (.if_icmp cn o)) : 0 ≤ (pc : Int) + o := by
  obtain ⟨t, h1, h2⟩ := zP_mem h
  have := List.all_eq_true.mp (List.all_eq_true.mp zif_ok t h1) _ h2
  simpa using this
section ZT
variable {B : Nat} {xv : Nat → Value} {D : va_G} {dA : Nat → ClassId} {H0 : Heap} {xs : Option (List Value)}
variable {p : Program} {l : Launch} {e : Env} {R : Room} {s : State} {m : MethodId} {args : Array Value} {below : List Frame} {meth : Method} {c : Code} {Q : State → Prop} {y n0 s0 : Nat}
theorem zcall_ngo {n : Nat} {vs rest : List Value} {y pc : Nat} {ls : List Value} {w : zH} {c' : zC} (h : zcall n vs rest y pc ls w = some (.inr (.inl c'))) : False := by
  unfold zcall at h
  split at h
  · cases h
  · cases h
theorem zinv_ngo {n : Nat} {y pc : Nat} {ls st : List Value} {w : zH} {c' : zC} (h : zinv xs n y pc ls st w = some (.inr (.inl c'))) : False := by
  unfold zinv at h
  split at h
  · split at h
    · exact zcall_ngo h
    · cases h
  · cases h
theorem zinvS_ngo {n : Nat} {y pc : Nat} {ls st : List Value} {w : zH} {c' : zC} (h : zinvS n y pc ls st w = some (.inr (.inl c'))) : False := by
  unfold zinvS at h
  split at h
  · exact zcall_ngo h
  · cases h
theorem zw_aC : ∀ ty, ty = FieldType.int ∨ ty = FieldType.char → Cond.arrayClass ty ∈ zG := by
  rintro ty (rfl | rfl)
  · exact zin_G (k := 105) (by decide +kernel)
  · exact zin_G (k := 84) (by decide +kernel)
theorem zSL_lt : ∀ e ∈ zSL, e.2.2 < 6 := by decide
/-- a branch on one int -/
theorem zs_if {pc : Nat} {ls r : List Value} {w : zH} {c' : zC} {cnd : Jvm.ClassFile.Cond} {o : Int} {a : Int32} (hx : p.tables.exec = Jvm.exec) (hb : c.code = (zCd.getD y ⟨#[]⟩)) (ht0 : 0 ≤ (pc : Int) + o) (hd : decode (zCd.getD y ⟨#[]⟩) pc = .ok (.ifCond cnd o, 3)) (hI : (if zcmp cnd a 0 = true then zjmp y pc o ls r w else zgo y (pc + 3) ls r w) = some (.inr (.inl c'))) (hk : zW B xv D dA H0 p l e R s m args below meth c Q (zM.getD y (0, 0, 0)).2.2 n0 s0 c'.2.1 c'.2.2.1 c'.2.2.2.1 c'.2.2.2.2) : c'.1 = y ∧ zW B xv D dA H0 p l e R s m args below meth c Q (zM.getD y (0, 0, 0)).2.2 n0 s0 pc ls (.int a :: r) w := by
  have ht1 : (pc : Int) + o = ((((pc : Int) + o).toNat : Nat) : Int) := by omega
  split at hI
  · rename_i hc
    refine zs_jmp (fun t ht kk H locs lsM hH hL hl => ?_) hI hk
    have h := kk H locs lsM hH hL hl
    cases cnd
    · exact lv_if_eq hx hb hd ht (fun _ => h) (fun q => absurd (of_decide_eq_true hc) q)
    · exact lv_if_ne hx hb hd ht (fun _ => h) (fun q => absurd q (of_decide_eq_true hc))
    · exact lv_if_lt hx hb hd ht (fun _ => h) (fun q => absurd (of_decide_eq_true hc) q)
    · exact lv_if_ge hx hb hd ht (fun _ => h) (fun q => absurd (of_decide_eq_true hc) q)
    · exact lv_if_gt hx hb hd ht (fun _ => h) (fun q => absurd (of_decide_eq_true hc) q)
    · exact lv_if_le hx hb hd ht (fun _ => h) (fun q => absurd (of_decide_eq_true hc) q)
  · rename_i hc
    refine zs_go (fun kk H locs lsM hH hL hl => ?_) hI hk
    have h := kk H locs lsM hH hL hl
    have hc0 : zcmp cnd a 0 = false := by simpa using hc
    cases cnd
    · exact lv_if_eq hx hb hd ht1 (fun q => absurd q (of_decide_eq_false hc0)) (fun _ => h)
    · exact lv_if_ne hx hb hd ht1 (fun q => absurd q (of_decide_eq_false hc0)) (fun _ => h)
    · exact lv_if_lt hx hb hd ht1 (fun q => absurd q (of_decide_eq_false hc0)) (fun _ => h)
    · exact lv_if_ge hx hb hd ht1 (fun q => absurd q (of_decide_eq_false hc0)) (fun _ => h)
    · exact lv_if_gt hx hb hd ht1 (fun q => absurd q (of_decide_eq_false hc0)) (fun _ => h)
    · exact lv_if_le hx hb hd ht1 (fun q => absurd q (of_decide_eq_false hc0)) (fun _ => h)
/-- a branch on two ints -/
theorem zs_icmp {pc : Nat} {ls r : List Value} {w : zH} {c' : zC} {cnd : Jvm.ClassFile.Cond} {o : Int} {a b : Int32} (hx : p.tables.exec = Jvm.exec) (hb : c.code = (zCd.getD y ⟨#[]⟩)) (ht0 : 0 ≤ (pc : Int) + o) (hd : decode (zCd.getD y ⟨#[]⟩) pc = .ok (.if_icmp cnd o, 3)) (hI : (if zcmp cnd a b = true then zjmp y pc o ls r w else zgo y (pc + 3) ls r w) = some (.inr (.inl c'))) (hk : zW B xv D dA H0 p l e R s m args below meth c Q (zM.getD y (0, 0, 0)).2.2 n0 s0 c'.2.1 c'.2.2.1 c'.2.2.2.1 c'.2.2.2.2) : c'.1 = y ∧ zW B xv D dA H0 p l e R s m args below meth c Q (zM.getD y (0, 0, 0)).2.2 n0 s0 pc ls (.int b :: .int a :: r) w := by
  have ht1 : (pc : Int) + o = ((((pc : Int) + o).toNat : Nat) : Int) := by omega
  split at hI
  · rename_i hc
    refine zs_jmp (fun t ht kk H locs lsM hH hL hl => ?_) hI hk
    have h := kk H locs lsM hH hL hl
    cases cnd
    · exact lv_icmp_eq hx hb hd ht (fun _ => h) (fun q => absurd (of_decide_eq_true hc) q)
    · exact lv_icmp_ne hx hb hd ht (fun _ => h) (fun q => absurd q (of_decide_eq_true hc))
    · exact lv_icmp_lt hx hb hd ht (fun _ => h) (fun q => absurd (of_decide_eq_true hc) q)
    · exact lv_icmp_ge hx hb hd ht (fun _ => h) (fun q => absurd (of_decide_eq_true hc) q)
    · exact lv_icmp_gt hx hb hd ht (fun _ => h) (fun q => absurd (of_decide_eq_true hc) q)
    · exact lv_icmp_le hx hb hd ht (fun _ => h) (fun q => absurd (of_decide_eq_true hc) q)
  · rename_i hc
    refine zs_go (fun kk H locs lsM hH hL hl => ?_) hI hk
    have h := kk H locs lsM hH hL hl
    have hc0 : zcmp cnd a b = false := by simpa using hc
    cases cnd
    · exact lv_icmp_eq hx hb hd ht1 (fun q => absurd q (of_decide_eq_false hc0)) (fun _ => h)
    · exact lv_icmp_ne hx hb hd ht1 (fun q => absurd q (of_decide_eq_false hc0)) (fun _ => h)
    · exact lv_icmp_lt hx hb hd ht1 (fun q => absurd q (of_decide_eq_false hc0)) (fun _ => h)
    · exact lv_icmp_ge hx hb hd ht1 (fun q => absurd q (of_decide_eq_false hc0)) (fun _ => h)
    · exact lv_icmp_gt hx hb hd ht1 (fun q => absurd q (of_decide_eq_false hc0)) (fun _ => h)
    · exact lv_icmp_le hx hb hd ht1 (fun q => absurd q (of_decide_eq_false hc0)) (fun _ => h)
theorem zs_iinc {pc : Nat} {ls st : List Value} {w : zH} {c' : zC} {i : Nat} {n : Int} {x : Int32} (hx : p.tables.exec = Jvm.exec) (hb : c.code = (zCd.getD y ⟨#[]⟩)) (hxv : ∀ i : Nat, xv i = .null ∨ ∃ a : Nat, xv i = .ref a) (hd : decode (zCd.getD y ⟨#[]⟩) pc = .ok (.iinc i n, 3)) (hi : ls[i]? = some (.int x)) (hI : zgo y (pc + 3) (ls.set i (.int (x + Int32.ofInt n))) st w = some (.inr (.inl c'))) (hk : zW B xv D dA H0 p l e R s m args below meth c Q (zM.getD y (0, 0, 0)).2.2 n0 s0 c'.2.1 c'.2.2.1 c'.2.2.2.1 c'.2.2.2.2) : c'.1 = y ∧ zW B xv D dA H0 p l e R s m args below meth c Q (zM.getD y (0, 0, 0)).2.2 n0 s0 pc ls st w := by
  refine zs_go (fun kk H locs lsM hH hL hl => ?_) hI hk
  have hlen := (List.getElem?_eq_some_iff.mp hi).1
  obtain ⟨k, hk1⟩ := List.getElem?_of_mem (zpr_mem (B := B) (xv := xv) hi (by intro h; cases h))
  have hM : lsM[i]? = some (.val (.int x)) := hL.2.2.2 i _ hi (by intro h; cases h)
  have hf : zfree ls i = true := by
    unfold zfree
    split
    · rfl
    · rename_i j
      split
      · rename_i v hv
        by_cases h2 : v.category = 1
        · exact decide_eq_true h2
        · have h3 : v.category = 2 := by rcases lv_cat v with h | h <;> omega
          have hj : v ≠ zJ := by rintro rfl; cases h3
          have h4 := hL.2.2.2 _ v hv hj
          have h5 := hL.2.2.1.1 _ _ h4 (by rw [zv_cat hxv]; exact h3)
          rw [hM] at h5
          cases h5
      · rfl
  exact lv_iinc (v := x + Int32.ofInt n) hx hb hd hL.has hk1 rfl (by rw [← hL.2.1]; exact hlen) rfl (fun ls' h' => kk H locs ls' hH (hL.store1 hxv hlen hf rfl h') hl)
/-- a reference is loaded -/
theorem zr_aload {pc : Nat} {lsM : Array Slot} {r : List Value} {H : Heap} {locs : List Loc} {k1 k2 n : Nat} {v : Value} (hx : p.tables.exec = Jvm.exec) (hb : c.code = (zCd.getD y ⟨#[]⟩)) (hd : decode (zCd.getD y ⟨#[]⟩) pc = .ok (.aload n, 2)) (hr : v = .null ∨ ∃ a : Nat, v = .ref a) (hl : lsM[n]? = some (.val v)) (k : W p l e R s m args below meth c H locs k1 k2 Q (F0 m (pc + 2) lsM (v :: r))) : W p l e R s m args below meth c H locs k1 k2 Q (F0 m pc lsM r) := by
  rcases hr with rfl | ⟨a, rfl⟩
  · exact lv_aloadN hx hb hd hl k
  · exact lv_aload hx hb hd hl k
theorem zr_aload_n {pc : Nat} {lsM : Array Slot} {r : List Value} {H : Heap} {locs : List Loc} {k1 k2 : Nat} {n : Fin 4} {v : Value} (hx : p.tables.exec = Jvm.exec) (hb : c.code = (zCd.getD y ⟨#[]⟩)) (hd : decode (zCd.getD y ⟨#[]⟩) pc = .ok (.aload_n n, 1)) (hr : v = .null ∨ ∃ a : Nat, v = .ref a) (hl : lsM[(n : Nat)]? = some (.val v)) (k : W p l e R s m args below meth c H locs k1 k2 Q (F0 m (pc + 1) lsM (v :: r))) : W p l e R s m args below meth c H locs k1 k2 Q (F0 m pc lsM r) := by
  rcases hr with rfl | ⟨a, rfl⟩
  · exact lv_aload_nN hx hb hd rfl hl k
  · exact lv_aload_n hx hb hd rfl hl k
theorem zr_astore {pc : Nat} {lsM : Array Slot} {r : List Value} {H : Heap} {locs : List Loc} {k1 k2 n nL : Nat} {v : Value} {lv : List (Nat × Value)} (hx : p.tables.exec = Jvm.exec) (hb : c.code = (zCd.getD y ⟨#[]⟩)) (hd : decode (zCd.getD y ⟨#[]⟩) pc = .ok (.astore n, 2)) (hr : v = .null ∨ ∃ a : Nat, v = .ref a) (h : lv_has lsM nL lv) (hn : n < nL) (k : ∀ ls' : Array Slot, lv_has ls' nL ((n, v) :: lv.filter (fun q => !(q.1 == n) && !(q.1 + 1 == n && q.2.category == 2))) → W p l e R s m args below meth c H locs k1 k2 Q (F0 m (pc + 2) ls' r)) : W p l e R s m args below meth c H locs k1 k2 Q (F0 m pc lsM (v :: r)) := by
  rcases hr with rfl | ⟨a, rfl⟩
  · exact lv_astoreN hx hb hd h hn rfl k
  · exact lv_astore hx hb hd h hn rfl k
theorem zr_astore_n {pc : Nat} {lsM : Array Slot} {r : List Value} {H : Heap} {locs : List Loc} {k1 k2 nL : Nat} {n : Fin 4} {v : Value} {lv : List (Nat × Value)} (hx : p.tables.exec = Jvm.exec) (hb : c.code = (zCd.getD y ⟨#[]⟩)) (hd : decode (zCd.getD y ⟨#[]⟩) pc = .ok (.astore_n n, 1)) (hr : v = .null ∨ ∃ a : Nat, v = .ref a) (h : lv_has lsM nL lv) (hn : (n : Nat) < nL) (k : ∀ ls' : Array Slot, lv_has ls' nL (((n : Nat), v) :: lv.filter (fun q => !(q.1 == (n : Nat)) && !(q.1 + 1 == (n : Nat) && q.2.category == 2))) → W p l e R s m args below meth c H locs k1 k2 Q (F0 m (pc + 1) ls' r)) : W p l e R s m args below meth c H locs k1 k2 Q (F0 m pc lsM (v :: r)) := by
  rcases hr with rfl | ⟨a, rfl⟩
  · exact lv_astore_nN hx hb hd rfl h hn rfl k
  · exact lv_astore_n hx hb hd rfl h hn rfl k
end ZT
