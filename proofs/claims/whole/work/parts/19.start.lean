/-! THE CLAIM OUT OF ONE WALK OF THE LAW'S BODY. Your part is whole_start (and what it stands on); all else here is the same for every law, but numbers. -/
def R_law : String := "GradedHousesLaw"
def lw_P (b : Addr) (xs : List Int32) (args : Array Value) (s : State) : Prop := args = #[.ref b] ∧ s.IntsAt b xs ∧ xs.length ≤ 4096 ∧ (Jvm.Cond.and given_1 narrow_1).before args s = true
def lw_Q (_ : Array Value) (s : State) (o : Outcome) (t : State) : Prop := o = .returned (some (.int 1)) ∧ Framed s o t [] 600000 7302250
def lw_Z (below : List Frame) (a : Array Value) (s : State) : State → Prop := fun t => ∃ o, t.status = .running ∧ Ended t below o ∧ lw_Q a s o t
/-- the law's own end, with 1 on the stack, nothing written that was there before, its room as the claim has it -/
theorem lw_ret {p : Program} {l : Launch} {e : Env} {s : State} {m : MethodId} {below : List Frame} {meth : Method} {c : Code} {b : Nat} (hx : p.tables.exec = Jvm.exec) (hb : c.code = code) (hr : meth.sig.returnType = ret) (hlocks : meth.locks = false) {pc : Nat} {H : Heap} {ls : Array Slot} (hdg : decode code pc = .ok (.ireturn, 1)) : W p l e room_1 s m #[Value.ref b] below meth c H [] 600000 7302250 (lw_Z below #[Value.ref b] s) (F0 m pc ls [.int 1]) := by
  intro T hT X
  obtain ⟨fs, hret, hrun, hended, hW, hframe⟩ := X.leave (v := some (.int 1)) (hlocks := hlocks) (fun h => by rw [hr] at h; cases h)
  have hmeth' : T.vm.method? m = some meth := X.method'
  refine ⟨T.setFrames fs, ?_, .returned (some (.int 1)), hrun, hended, rfl, ⟨_, rfl⟩, hW, hframe⟩
  jvm_step X.here [X.here.top, hx, hb, hdg, hmeth', hr, ret, narrow_b1]
  (try refine ⟨rfl, ?_⟩); (try refine ⟨rfl, ?_⟩)
  first | (intro acts; rw [hret _ acts rfl rfl rfl]) | rw [hret _ _ rfl rfl rfl]
  exact Steps.refl _
/-- what holds at the law's entry: the machine, the code, the tables' words (any of lw_tbl by 'hts w (by decide +kernel)'), the script of L ints xs at the cell b, what the Statement gives of the start (any of its parts by flat_of_before) -/
def lw_At (p : Program) (s : State) (m : MethodId) (meth : Method) (c : Code) (b L : Nat) (xs : Nat → Int32) : Prop :=
  p.tables.exec = Jvm.exec ∧ c.code = code ∧ meth.sig.returnType = ret ∧ c.maxLocals = 4 ∧ s.vm.findClass R_law = some m.cls ∧ (∀ w ∈ lw_tbl, w.before #[Value.ref b] s = true) ∧ va_X b L xs s s.heap ∧ b < s.heap.size ∧ meth.locks = false ∧ (Jvm.Cond.and given_1 narrow_1).before #[Value.ref b] s = true
/-! THE PURE STATEMENT, and the walk of the law out of it -/
def zPure : Prop := ∀ xs : List Int32, xs.length ≤ 4096 → ∃ wf : zH, zrun (some (xs.map .int)) (242, 0, [.ref (zX + 6), zJ, zJ, zJ], [], []) = some (some (.int 1), wf) ∧ wf.length ≤ 600000 ∧ zsz wf ≤ 7302250
theorem zAO_mem : ∀ k ∈ zqk, ∃ h : Nat, tables_1[h]? = some (Cond.arrayOver (.object (zO.getD (k - 200) ""))) := by
  intro k hk
  obtain ⟨h, hh⟩ := zall (L := zqk) (hs := [86, 115, 88, 39, 52, 31, 107]) (f := fun k (h : Nat) => decide (tables_1[h]? = some (Cond.arrayOver (.object (zO.getD (k - 200) ""))))) (by decide +kernel) (by decide +kernel) k hk
  exact ⟨h, of_decide_eq_true hh⟩
def zsid : List Nat := [386, 403, 405, 407, 409, 415]
theorem zlay0 : Cond.laysStatic RJ0 "COMPACT_STRINGS" "Z" ∈ tables_1 := List.mem_of_getElem? (i := 447) (by decide +kernel)
theorem zlay1 : Cond.laysStatic RJ3 "SIOOBE_FORMATTER" "Ljava/util/function/BiFunction;" ∈ tables_1 := List.mem_of_getElem? (i := 463) (by decide +kernel)
theorem zini0 : Cond.initialized RJ0 ∈ tables_1 := List.mem_of_getElem? (i := 12) (by decide +kernel)
theorem zini1 : Cond.initialized RJ3 ∈ tables_1 := List.mem_of_getElem? (i := 14) (by decide +kernel)
theorem ztb {w : Cond} (h : w ∈ tables_1) : w ∈ lw_tbl := List.mem_append_right _ h
set_option maxRecDepth 100000 in
set_option maxHeartbeats 4000000 in
/-- the world at the law's entry -/
theorem zstart {p : Program} {s : State} {m : MethodId} {meth : Method} {c : Code} {b L : Nat} {xs : Nat → Int32} (hL : L ≤ 4096) (C0 : lw_At p s m meth c b L xs) : ∃ (xv : Nat → Value) (D : va_G) (dA : Nat → ClassId), xv 6 = .ref b ∧ zK s.heap.size xv D dA s.heap (some ((List.range L).map fun j => .int (xs j))) s := by
  obtain ⟨hx, hb, hr, hml, hown, hts, hX, hbl, hlocks, hgv⟩ := id C0
  have hG : ∀ w ∈ zG, w.before #[Value.ref b] s = true := fun w hw => hts w (List.mem_filter.mp hw).1
  have hs := flat_of_before _ hgv
  have hA : ∀ a : Nat, a < s.heap.size → ¬ (fun q => s.heap.size ≤ q) a := fun a ha => Nat.not_le.mpr ha
  have hD0 : ∀ k : Nat, ∃ q : ClassId × (Nat → Nat), ∀ (C : String) (T : u_T) (N : Nat), vwCl[k]? = some (C, T, N) → u_Kn s C T N q.1 q.2 := by
    intro k
    cases hv : vwCl[k]? with
    | none => exact ⟨(0, fun _ => 0), fun C T N h => by cases h⟩
    | some q =>
      obtain ⟨C, T, N⟩ := q
      have hz := zvw hv
      obtain ⟨cC, iS, h⟩ := u_known (C := C) (T := T) (N := N) (n := N) hG hz.2.2.1 (hG _ hz.2.2.2.2.2.1)
      exact ⟨(cC, iS), fun C' T' N' e => by cases e; exact h⟩
  obtain ⟨fD, hfD⟩ := Classical.axiomOfChoice hD0
  have hA0 : ∀ k : Nat, ∃ cA : ClassId, (k = 100 ∨ k = 101 ∨ k ∈ zqk) → ArrOfT s cA (zkt k) ∧ va_RA s cA (zkt k) := by
    intro k
    by_cases h100 : k = 100
    · subst h100
      obtain ⟨cA, kA, comp, g1, g2, g3⟩ := Cond.arrayClass_spec (hG _ (zw_aC .int (Or.inl rfl)))
      exact ⟨cA, fun _ => ⟨fun n z => ⟨fun k h => (by cases h), kA, g2, comp, g3⟩, g1⟩⟩
    · by_cases h101 : k = 101
      · subst h101
        obtain ⟨cA, kA, comp, g1, g2, g3⟩ := Cond.arrayClass_spec (hG _ (zw_aC .char (Or.inr rfl)))
        exact ⟨cA, fun _ => ⟨fun n z => ⟨fun k h => (by cases h), kA, g2, comp, g3⟩, g1⟩⟩
      · by_cases hq : k ∈ zqk
        · obtain ⟨h, hh⟩ := zAO_mem k hq
          obtain ⟨comp, cA, kA, g1, -, g3, g4, g5⟩ := Cond.arrayOver_spec (hts _ (ztb (List.mem_of_getElem? hh)))
          have hkt : zkt k = .object (zO.getD (k - 200) "") := by
            have := zqk_ge hq
            unfold zkt
            rw [if_neg (by omega), if_neg (by omega), if_neg (by omega)]
          refine ⟨cA, fun _ => ?_⟩
          rw [hkt]
          exact ⟨fun n z => ⟨fun k h => (by cases h), kA, g3, comp, g4⟩, kA, comp, g3, g4, g1, g5⟩
        · exact ⟨0, fun h => by rcases h with h | h | h <;> contradiction⟩
  obtain ⟨dA, hdA⟩ := Classical.axiomOfChoice hA0
  have hex : ∀ i : Nat, i < 6 → (Cond.exactly (Term.string RX11 (zsid.getD i 0)) "java/lang/String").before #[Value.ref b] s = true := fun i hi => hs _ ((by decide +kernel : ∀ i, i < 6 → Cond.exactly (Term.string RX11 (zsid.getD i 0)) "java/lang/String" ∈ flatC (Jvm.Cond.and given_1 narrow_1)) i hi)
  have hco : ∀ i : Nat, i < 6 → (Cond.eq (.field (Term.string RX11 (zsid.getD i 0)) "java/lang/String" "coder" "B") (.int 0)).before #[Value.ref b] s = true := fun i hi => hs _ ((by decide +kernel : ∀ i, i < 6 → Cond.eq (.field (Term.string RX11 (zsid.getD i 0)) "java/lang/String" "coder" "B") (.int 0) ∈ flatC (Jvm.Cond.and given_1 narrow_1)) i hi)
  have har : ∀ i : Nat, i < 6 → (Cond.arrayOf (.field (Term.string RX11 (zsid.getD i 0)) "java/lang/String" "value" "[B") .byte).before #[Value.ref b] s = true := fun i hi => hs _ ((by decide +kernel : ∀ i, i < 6 → Cond.arrayOf (.field (Term.string RX11 (zsid.getD i 0)) "java/lang/String" "value" "[B") .byte ∈ flatC (Jvm.Cond.and given_1 narrow_1)) i hi)
  have hle : ∀ i : Nat, i < 6 → (Cond.eq (.length (.field (Term.string RX11 (zsid.getD i 0)) "java/lang/String" "value" "[B")) (.int (Int32.ofNat (zlenS.getD i 0)))).before #[Value.ref b] s = true := fun i hi => hs _ ((by decide +kernel : ∀ i, i < 6 → Cond.eq (.length (.field (Term.string RX11 (zsid.getD i 0)) "java/lang/String" "value" "[B")) (.int (Int32.ofNat (zlenS.getD i 0))) ∈ flatC (Jvm.Cond.and given_1 narrow_1)) i hi)
  have hel : ∀ i : Nat, i < 6 → ∀ j : Nat, j < zlenS.getD i 0 → (Cond.eq (.elem (.field (Term.string RX11 (zsid.getD i 0)) "java/lang/String" "value" "[B") (.int (Int32.ofNat j))) (.int ((zbytS.getD i []).getD j 0))).before #[Value.ref b] s = true := fun i hi j hj => hs _ ((by decide +kernel : ∀ i, i < 6 → ∀ j, j < zlenS.getD i 0 → Cond.eq (.elem (.field (Term.string RX11 (zsid.getD i 0)) "java/lang/String" "value" "[B") (.int (Int32.ofNat j))) (.int ((zbytS.getD i []).getD j 0)) ∈ flatC (Jvm.Cond.and given_1 narrow_1)) i hi j hj)
  have hne : ∀ i j : Nat, i < 6 → j < 6 → i ≠ j → (Cond.not (Cond.eq (Term.string RX11 (zsid.getD i 0)) (Term.string RX11 (zsid.getD j 0)))).before #[Value.ref b] s = true ∨ (Cond.not (Cond.eq (Term.string RX11 (zsid.getD j 0)) (Term.string RX11 (zsid.getD i 0)))).before #[Value.ref b] s = true := by
    intro i j hi hj hij
    have h := (by decide +kernel : ∀ i, i < 6 → ∀ j, j < 6 → i ≠ j → Cond.not (Cond.eq (Term.string RX11 (zsid.getD i 0)) (Term.string RX11 (zsid.getD j 0))) ∈ flatC (Jvm.Cond.and given_1 narrow_1) ∨ Cond.not (Cond.eq (Term.string RX11 (zsid.getD j 0)) (Term.string RX11 (zsid.getD i 0))) ∈ flatC (Jvm.Cond.and given_1 narrow_1)) i hi j hj hij
    rcases h with h | h
    · exact Or.inl (hs _ h)
    · exact Or.inr (hs _ h)
  obtain ⟨adK, adV, hS, hev⟩ := vk_Sof (args := #[Value.ref b]) (s := s) (N := 6) (tm := fun i => Term.string RX11 (zsid.getD i 0)) (len := zlenS) (byt := zbytS) (A := fun q => s.heap.size ≤ q) (by decide +kernel) hex hco har hle hel hne hA
  have hZ0 : va_Z RJ0 "COMPACT_STRINGS" "Z" (.int 1) (fun q => s.heap.size ≤ q) s s.heap := va_Zof (hts _ (ztb zlay0)) (hts _ (ztb zini0)) (va_eqt (hs _ (by decide +kernel))) hA
  have hZ1 : va_Zq RJ3 "SIOOBE_FORMATTER" "Ljava/util/function/BiFunction;" (fun q => s.heap.size ≤ q) s s.heap := va_Zqof (hts _ (ztb zlay1)) (hts _ (ztb zini1)) (hs _ (by decide +kernel)) hA
  obtain ⟨z20, hz20, hZ1⟩ : ∃ z : Value, (z = .null ∨ ∃ a : Nat, z = .ref a) ∧ va_Z RJ3 "SIOOBE_FORMATTER" "Ljava/util/function/BiFunction;" z (fun q => s.heap.size ≤ q) s s.heap := by
    rcases hZ1 with h | ⟨t, h⟩
    · exact ⟨.null, Or.inl rfl, h⟩
    · exact ⟨.ref t, Or.inr ⟨t, rfl⟩, h⟩
  refine ⟨fun i => if i < 6 then .ref (adK i) else if i = 6 then .ref b else if 10 ≤ i ∧ i < 16 then .ref (adV (i - 10)) else if i = 20 then z20 else .null, (fun k => (fD k).1, fun k => (fD k).2), dA, rfl, ⟨fun k q hq => hfD k q.1 q.2.1 q.2.2 hq, fun k q hq => ?_⟩, fun w hw => ?_, fun k hk => ?_, fun i => ?_, ⟨adK, adV, hS, fun i hi => ?_, fun q hq => ?_⟩, hZ0, hZ1, b, xs, rfl, hbl, fun l hl => ?_⟩
  · have hm := List.mem_of_getElem? hq
    unfold ztys at hm
    rcases List.mem_append.mp hm with h | h
    · simp only [List.mem_cons, List.not_mem_nil, or_false] at h
      rcases h with rfl | rfl
      · exact hdA 100 (Or.inl rfl)
      · exact hdA 101 (Or.inr (Or.inl rfl))
    · obtain ⟨k, hk, rfl⟩ := List.mem_map.mp h
      have h9 := hdA k (Or.inr (Or.inr hk))
      have hkt : zkt k = .object (zO.getD (k - 200) "") := by
        have := zqk_ge hk
        unfold zkt
        rw [if_neg (by omega), if_neg (by omega), if_neg (by omega)]
      rw [hkt] at h9
      exact h9
  · have hb := hts w (ztb (List.mem_filter.mp hw).1)
    rcases zNW_nest hw with ⟨a, i, b, n, d, q, rfl⟩ | ⟨a, i, x, q, rfl⟩
    · exact va_Nw.of rfl hb
    · exact va_Nw.of rfl hb
  · obtain ⟨h, hh⟩ := zAO_mem k hk
    exact va_AO.of (hts _ (ztb (List.mem_of_getElem? hh)))
  · dsimp only
    repeat' split
    all_goals first | exact hz20 | exact Or.inl rfl | exact Or.inr ⟨_, rfl⟩
  · refine ⟨if_pos hi, ?_⟩
    dsimp only
    rw [if_neg (by omega), if_neg (by omega), if_pos (by omega), Nat.add_sub_cancel_left]
  · have hz : (q.1, q.2.1, q.2.2) ∈ zSL := hq
    have h1 := (by decide +kernel : ∀ q ∈ zSL, zO.getD q.1 "" = RX11 ∧ q.2.1 = zsid.getD q.2.2 0) q hq
    obtain ⟨k, hk⟩ := zSL_ok q hq
    have h2 := hts _ (ztb (List.mem_of_getElem? (of_decide_eq_true hk)))
    rw [h1.1, h1.2] at h2 ⊢
    exact vk_R.of h2 (hev _ (zSL_lt _ hq))
  · cases hl
    refine ⟨by rw [List.length_map, List.length_range]; omega, by rw [List.length_map, List.length_range]; exact hX, fun j v hj => ?_⟩
    rw [List.getElem?_map] at hj
    have hj2 : j < L := by
      by_cases h : j < L
      · exact h
      · rw [List.getElem?_eq_none (by rw [List.length_range]; omega)] at hj; cases hj
    rw [List.getElem?_range hj2] at hj
    cases hj
    rfl
set_option maxHeartbeats 4000000 in
/-- THE LAW, from its entry, out of the pure statement -/
theorem zwhole (hp : zPure) {p : Program} {e : Env} {s : State} {m : MethodId} {below : List Frame} {meth : Method} {c : Code} (l : Launch) {b L : Nat} {xs : Nat → Int32} (hL : L ≤ 4096) (C0 : lw_At p s m meth c b L xs) : W p l e room_1 s m #[Value.ref b] below meth c s.heap [] 0 0 (lw_Z below #[Value.ref b] s) (entryFrame m ([Value.ref b] : List Value).toArray 4) := by
  obtain ⟨xv, D, dA, h6, hK⟩ := zstart hL C0
  obtain ⟨hx, hb, hr, hml, hown, hts, hX, hbl, hlocks, hgv⟩ := id C0
  obtain ⟨wf, hrun, hw1, hw2⟩ := hp ((List.range L).map xs) (by rw [List.length_map, List.length_range]; exact hL)
  rw [List.map_map] at hrun
  obtain ⟨n, hn⟩ := zrun_some hrun
  have hC : zCx s.heap.size xv D dA s.heap (some ((List.range L).map fun j => .int (xs j))) p room_1 s m #[Value.ref b] meth c 242 :=
    ⟨hx, hb, hml, hown, fun w hw => hts w (List.mem_filter.mp hw).1, hr, hlocks, fun h => absurd h (by decide), rfl, rfl, hK⟩
  have hW := zsim (B := s.heap.size) (xv := xv) (D := D) (dA := dA) (H0 := s.heap) (xs := some ((List.range L).map fun j => .int (xs j))) l n 242 0 _ [] [] (some (.int 1)) wf hn p e room_1 s m #[Value.ref b] below meth c (lw_Z below #[Value.ref b] s) 0 0 hC (Nat.zero_le _) (Nat.zero_le _) hw1 hw2 (fun pc' H locs lsM hH hl hrt => by
    rcases hrt with ⟨h, -⟩ | ⟨x, ty, h, hd, -⟩ | ⟨x, h, -⟩ | ⟨u, C, h, hu, -⟩
    · cases h
    · refine va_forget hl ?_
      refine W.widen (k := 600000) (n := 7302250) hw1 hw2 ?_
      exact lw_ret hx hb hr hlocks hd
    · cases h
    · cases h; cases hu)
  have hLR := zLR.entry (B := s.heap.size) (xv := xv) (n := 4) (vs := [.ref (zX + 6)]) hK.2.2.2.1 (by decide)
  have ev : [Value.ref (zX + 6)].map (zv s.heap.size xv) = [.ref b] := by rw [List.map_cons, zv_ext, h6]; rfl
  rw [ev] at hLR
  rw [lg_entry_eq]
  exact hW s.heap [] _ ⟨rfl, rfl, fun _ _ => rfl, fun a c h => by simp at h⟩ hLR (fun q hq => by cases hq)
