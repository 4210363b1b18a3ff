/-! THE STEP -/
section ZU
variable {B : Nat} {xv : Nat → Value} {D : va_G} {dA : Nat → ClassId} {H0 : Heap} {xs : Option (List Value)}
variable {p : Program} {l : Launch} {e : Env} {R : Room} {s : State} {m : MethodId} {args : Array Value} {below : List Frame} {meth : Method} {c : Code} {Q : State → Prop} {y n0 s0 : Nat}
/-- a reference into an array of references -/
theorem zs_aast {pc : Nat} {ls st : List Value} {w : zH} {c' : zC} (hC : zCx B xv D dA H0 xs p R s m args meth c y) (hd : decode (zCd.getD y ⟨#[]⟩) pc = .ok (.aastore, 1)) (hI : zast (zastq w) (fun v => v) y pc ls st w = some (.inr (.inl c'))) (hk : zW B xv D dA H0 p l e R s m args below meth c Q (zM.getD y (0, 0, 0)).2.2 n0 s0 c'.2.1 c'.2.2.1 c'.2.2.2.1 c'.2.2.2.2) : c'.1 = y ∧ zW B xv D dA H0 p l e R s m args below meth c Q (zM.getD y (0, 0, 0)).2.2 n0 s0 pc ls st w := by
  obtain ⟨hx, hb, hml, hown, hts, hrt, hlk, hin, hfr, hlo, hK⟩ := id hC
  refine zs_ast (kd := zastq w) (f := fun v => v) hK (fun k v h => ?_) (fun _ _ _ => rfl) (fun k v h h100 => ?_) (fun H locs lsM q k cell j v r k1 k2 hH hkd hcell harr hvm hcls hkind hin kk => ?_) hI hk
  · unfold zastq at h
    simp only [Bool.and_eq_true, decide_eq_true_eq] at h
    omega
  · unfold zastq at h
    simp only [Bool.and_eq_true, decide_eq_true_eq] at h
    omega
  · unfold zastq at hkd
    simp only [Bool.and_eq_true, decide_eq_true_eq] at hkd
    obtain ⟨hk200, hv⟩ := hkd
    have hq : k ∈ zqk := by
      rcases hkind with h | h | h
      · omega
      · omega
      · exact h
    have hq2 := zqk_ge hq
    have hkt : zkt k = .object (zO.getD (k - 200) "") := by
      unfold zkt
      rw [if_neg (by omega), if_neg (by omega), if_neg (by omega)]
    rw [hkt] at harr
    cases v with
    | null => exact va_WaastN hx hb hcell harr (by rw [hvm]; exact fun h => (by cases h)) hin rfl rfl hd kk
    | ref b =>
      simp only [Bool.and_eq_true, decide_eq_true_eq] at hv
      obtain ⟨hbX, hv⟩ := hv
      cases hwb : w[b]? with
      | none => rw [hwb] at hv; cases hv
      | some cb =>
        obtain ⟨cn, vs⟩ := cb
        rw [hwb] at hv
        have hcn : cn + 200 = k := by simpa using hv
        obtain ⟨cv, v1, v2, v3⟩ := hH.2.2.2 b _ hwb
        rcases v3 with ⟨w1, w2, w3, -⟩ | ⟨w1, -⟩
        · dsimp only at w1 w2 w3
          obtain ⟨C, T, N, h1⟩ := zvw_some w1
          have hz := zvw h1
          obtain ⟨hS, hfc, kC, hkC, hkindC⟩ := hK.1.1 cn _ h1
          obtain ⟨i, hi⟩ := ztys_get (dA := dA) hkind
          have hra := (hK.1.2 i _ hi).2
          rw [hkt] at hra
          obtain ⟨kA, comp, a1, a2, a3, -⟩ := hra
          dsimp only at a1 a2 a3
          have hzo : zO.getD (k - 200) "" = C := by rw [← hcn, Nat.add_sub_cancel]; exact hz.2.2.2.2.2.2.2.2.1
          rw [hzo] at a2 a3
          have hcomp : comp = D.1 cn := Option.some.inj (a3.symm.trans hfc)
          subst hcomp
          show W p l e R s m args below meth c H locs k1 k2 Q (F0 m pc lsM (zv B xv (.ref b) :: .int j :: .ref q :: r))
          have kk' : ∀ H' : Heap, H'[q]? = some (cell.setSlot j.toNatClampNeg (.ref (B + b))) → H'.size = H.size → (∀ q', q' ≠ q → H'[q']? = H[q']?) → W p l e R s m args below meth c H' (locs ++ [⟨q, j.toNatClampNeg⟩]) k1 k2 Q (F0 m (pc + 1) lsM r) := by
            intro H' e1
            exact kk H' (by rw [zv_ref hbX]; exact e1)
          rw [zv_ref hbX]
          refine W.aast hx hb hcell (fun z h => (by rw [hvm] at h; cases h)) (by rw [hvm]; exact fun h => (by cases h)) (by rw [hcls]; exact a1) a2 rfl hkC ⟨fun h => hin (Or.inl h), Nat.lt_of_not_le fun h => hin (Or.inr h)⟩ v1 (fun z h => (by rw [v2] at h; cases h)) (by rw [w3]; exact hkC) (by rw [w3]; exact va_assign ⟨hfc, kC, hkC, hkindC⟩) rfl rfl hd kk'
        · dsimp only at w1
          rcases w1 with w1 | w1 | w1
          · omega
          · omega
          · have := zqk_ge w1; omega
    | _ => cases hv
set_option maxHeartbeats 4000000 in
set_option maxRecDepth 100000 in
/-- THE STEP: what goes on in the abstract machine goes on in the machine -/
theorem zstep {i : Instr} {pc : Nat} {ls st : List Value} {w : zH} {c' : zC} (hC : zCx B xv D dA H0 xs p R s m args meth c y) (hP : zP y pc = some i) (hn0 : n0 ≤ w.length) (hs0 : s0 ≤ zsz w) (hI : zI xs y pc ls st w i = some (.inr (.inl c'))) (hR : c'.2.2.2.2.length - n0 ≤ R.cells ∧ zsz c'.2.2.2.2 - s0 ≤ R.slots) (hk : zW B xv D dA H0 p l e R s m args below meth c Q (zM.getD y (0, 0, 0)).2.2 n0 s0 c'.2.1 c'.2.2.1 c'.2.2.2.1 c'.2.2.2.2) : c'.1 = y ∧ zW B xv D dA H0 p l e R s m args below meth c Q (zM.getD y (0, 0, 0)).2.2 n0 s0 pc ls st w := by
  have hok := zP_ok hP
  obtain ⟨hx, hb, hml, hown, hts, hrt, hlk, hin, hfr, hlo, hK⟩ := id hC
  have hxv := hK.2.2.2.1
  cases i with
  | iconst n =>
    have hd := zok_plain hok (fun _ _ => rfl)
    exact zs_push (fun H locs lsM r k1 k2 k => lv_iconst hx hb hd rfl k) hI hk
  | bipush n =>
    obtain ⟨i0, len, hd, h1⟩ := zok_dec hok
    simp only [zokD] at h1
    split at h1
    · simp only [Bool.and_eq_true, decide_eq_true_eq] at h1
      obtain ⟨⟨rfl, rfl⟩, h3⟩ := h1
      exact zs_push (fun H locs lsM r k1 k2 k => lv_bipush hx hb hd h3 k) hI hk
    · simp only [Bool.and_eq_true, decide_eq_true_eq] at h1
      obtain ⟨rfl, h3⟩ := h1
      obtain ⟨q, hq⟩ := zKL_ok _ h3
      exact zs_push (fun H locs lsM r k1 k2 k => W.ldc hx hb hown (hts _ (zin_G hq)) rfl hd k) hI hk
    · cases h1
  | sipush n =>
    obtain ⟨i0, len, hd, h1⟩ := zok_dec hok
    simp only [zokD] at h1
    split at h1
    · simp only [Bool.and_eq_true, decide_eq_true_eq] at h1
      obtain ⟨⟨rfl, rfl⟩, h3⟩ := h1
      exact zs_push (fun H locs lsM r k1 k2 k => lv_sipush hx hb hd h3 k) hI hk
    · simp only [Bool.and_eq_true, decide_eq_true_eq] at h1
      obtain ⟨rfl, h3⟩ := h1
      obtain ⟨q, hq⟩ := zKL_ok _ h3
      exact zs_push (fun H locs lsM r k1 k2 k => lv_ldcw hx hb hown (hts _ (zin_G hq)) hd k) hI hk
    · cases h1
  | lconst n =>
    have hd := zok_plain hok (fun _ _ => rfl)
    exact zs_push (fun H locs lsM r k1 k2 k => lv_lconst hx hb hd rfl k) hI hk
  | ldc2_w n =>
    obtain ⟨i0, len, hd, h1⟩ := zok_dec hok
    simp only [zokD] at h1
    split at h1
    · simp only [Bool.and_eq_true, decide_eq_true_eq] at h1
      obtain ⟨rfl, h3⟩ := h1
      obtain ⟨q, hq⟩ := zLL_ok _ h3
      exact zs_push (fun H locs lsM r k1 k2 k => W.ldc2 hx hb hown (hts _ (zin_G hq)) rfl hd k) hI hk
    · cases h1
  | ldc n =>
    obtain ⟨i0, len, hd, h1⟩ := zok_dec hok
    simp only [zokD] at h1
    split at h1
    · simp only [Bool.and_eq_true, decide_eq_true_eq] at h1
      obtain ⟨rfl, h3⟩ := h1
      obtain ⟨-, ⟨adK, adV, hS, hxx, hSR⟩, -⟩ := hK.2.2.2
      have hz := hSR _ h3
      have hn6 := zSL_lt _ h3
      dsimp only at hz hn6
      refine zs_push (fun H locs lsM r k1 k2 k => zldcS hx hb hown hz hd ?_) hI hk
      rw [zv_ext, (hxx _ hn6).1] at k
      exact k
    · cases h1
  | aconst_null =>
    have hd := zok_plain hok (fun _ _ => rfl)
    exact zs_push (fun H locs lsM r k1 k2 k => lv_null hx hb hd k) hI hk
  | getstatic n =>
    obtain ⟨i0, len, hd, h1⟩ := zok_dec hok
    simp only [zokD] at h1
    split at h1
    · simp only [Bool.and_eq_true, decide_eq_true_eq] at h1
      obtain ⟨rfl, h3⟩ := h1
      obtain ⟨q, hq⟩ := zGL_ok _ h3
      unfold zGok at hq
      simp only [Bool.or_eq_true, Bool.and_eq_true, beq_iff_eq] at hq
      obtain ⟨-, -, hZ0, hZ1, -⟩ := hK.2.2.2
      rcases hq with ⟨rfl, hl⟩ | ⟨rfl, hl⟩
      · obtain ⟨cf, kf, fi, f, a, cell, g1, g2, g3, g4, g5, g6, g7, g8⟩ := hZ0
        refine zs_go (fun kk H locs lsM hH hL hll => ?_) hI hk
        exact W.gets hx hb hown (hts _ (zin_G hl)) g1 g2 g3 g4 (by rw [hH.2.2.1 a (Nat.lt_of_not_le g8)]; exact g5) (fun z => (by rw [z] at g6; cases g6)) g7 rfl hd (kk H locs lsM hH hL hll)
      · obtain ⟨cf, kf, fi, f, a, cell, g1, g2, g3, g4, g5, g6, g7, g8⟩ := hZ1
        refine zs_go (fun kk H locs lsM hH hL hll => ?_) hI hk
        have h9 := kk H locs lsM hH hL hll
        rw [List.map_cons, zv_ext] at h9
        exact W.gets hx hb hown (hts _ (zin_G hl)) g1 g2 g3 g4 (by rw [hH.2.2.1 a (Nat.lt_of_not_le g8)]; exact g5) (fun z => (by rw [z] at g6; cases g6)) g7 rfl hd h9
    · cases h1
  | iload n =>
    have hd := zok_plain hok (fun _ _ => rfl)
    refine zs_ld rfl (fun H locs lsM v r k1 k2 ho hl k => ?_) hI hk
    cases v with
    | int x => exact lv_iload hx hb hd hl k
    | _ => cases ho
  | iload_n n =>
    have hd := zok_plain hok (fun _ _ => rfl)
    refine zs_ld rfl (fun H locs lsM v r k1 k2 ho hl k => ?_) hI hk
    cases v with
    | int x => exact lv_iload_n hx hb hd rfl hl k
    | _ => cases ho
  | lload n =>
    have hd := zok_plain hok (fun _ _ => rfl)
    refine zs_ld rfl (fun H locs lsM v r k1 k2 ho hl k => ?_) hI hk
    cases v with
    | long x => exact lv_lload hx hb hd hl k
    | _ => cases ho
  | lload_n n =>
    have hd := zok_plain hok (fun _ _ => rfl)
    refine zs_ld rfl (fun H locs lsM v r k1 k2 ho hl k => ?_) hI hk
    cases v with
    | long x => exact lv_lload_n hx hb hd rfl hl k
    | _ => cases ho
  | aload n =>
    have hd := zok_plain hok (fun _ _ => rfl)
    exact zs_ld rfl (fun H locs lsM v r k1 k2 ho hl k => zr_aload hx hb hd (zv_isref hxv ho) hl k) hI hk
  | aload_n n =>
    have hd := zok_plain hok (fun _ _ => rfl)
    exact zs_ld rfl (fun H locs lsM v r k1 k2 ho hl k => zr_aload_n hx hb hd (zv_isref hxv ho) hl k) hI hk
  | istore n =>
    have hd := zok_plain hok (fun _ _ => rfl)
    refine zs_st hxv (fun H locs lsM lv v r k1 k2 ho h hn k => ?_) hI hk
    cases v with
    | int x => exact lv_istore hx hb hd h hn rfl k
    | _ => cases ho
  | istore_n n =>
    have hd := zok_plain hok (fun _ _ => rfl)
    refine zs_st hxv (fun H locs lsM lv v r k1 k2 ho h hn k => ?_) hI hk
    cases v with
    | int x => exact lv_istore_n hx hb hd rfl h hn rfl k
    | _ => cases ho
  | astore n =>
    have hd := zok_plain hok (fun _ _ => rfl)
    exact zs_st hxv (fun H locs lsM lv v r k1 k2 ho h hn k => zr_astore hx hb hd (zv_isref hxv ho) h hn k) hI hk
  | astore_n n =>
    have hd := zok_plain hok (fun _ _ => rfl)
    exact zs_st hxv (fun H locs lsM lv v r k1 k2 ho h hn k => zr_astore_n hx hb hd (zv_isref hxv ho) h hn k) hI hk
  | lstore n =>
    have hd := zok_plain hok (fun _ _ => rfl)
    exact zs_stl hxv (fun H locs lsM lv v r k1 k2 h hn k => lv_lstore hx hb hd h hn rfl k) hI hk
  | lstore_n n =>
    have hd := zok_plain hok (fun _ _ => rfl)
    exact zs_stl hxv (fun H locs lsM lv v r k1 k2 h hn k => lv_lstore_n hx hb hd rfl h hn rfl k) hI hk
  | iinc k n =>
    have hd := zok_plain hok (fun _ _ => rfl)
    simp only [zI] at hI
    split at hI
    · rename_i x hx2
      exact zs_iinc hx hb hxv hd hx2 hI hk
    · cases hI
  | iadd => exact zs_i2 (fun H locs lsM a b r k1 k2 k => lv_iadd hx hb (zok_plain hok (fun _ _ => rfl)) k) hI hk
  | isub => exact zs_i2 (fun H locs lsM a b r k1 k2 k => lv_isub hx hb (zok_plain hok (fun _ _ => rfl)) k) hI hk
  | imul => exact zs_i2 (fun H locs lsM a b r k1 k2 k => lv_imul hx hb (zok_plain hok (fun _ _ => rfl)) k) hI hk
  | iand => exact zs_i2 (fun H locs lsM a b r k1 k2 k => lv_iand hx hb (zok_plain hok (fun _ _ => rfl)) k) hI hk
  | ior => exact zs_i2 (fun H locs lsM a b r k1 k2 k => lv_ior hx hb (zok_plain hok (fun _ _ => rfl)) k) hI hk
  | ixor => exact zs_i2 (fun H locs lsM a b r k1 k2 k => lv_ixor hx hb (zok_plain hok (fun _ _ => rfl)) k) hI hk
  | ishl => exact zs_i2 (fun H locs lsM a b r k1 k2 k => lv_ishl hx hb (zok_plain hok (fun _ _ => rfl)) k) hI hk
  | ishr => exact zs_i2 (fun H locs lsM a b r k1 k2 k => lv_ishr hx hb (zok_plain hok (fun _ _ => rfl)) k) hI hk
  | iushr => exact zs_i2 (fun H locs lsM a b r k1 k2 k => lv_iushr hx hb (zok_plain hok (fun _ _ => rfl)) rfl k) hI hk
  | idiv =>
    have hd := zok_plain hok (fun _ _ => rfl)
    simp only [zI] at hI
    split at hI
    · split at hI
      · cases hI
      · rename_i h0
        exact zs_go (fun kk H locs lsM hH hL hl => lv_idiv hx hb hd h0 (kk H locs lsM hH hL hl)) hI hk
    · cases hI
  | ineg => exact zs_i1 (f := fun a => .int (-a)) (fun H locs lsM a r k1 k2 k => lv_ineg hx hb (zok_plain hok (fun _ _ => rfl)) k) hI hk
  | i2l => exact zs_i1 (f := fun a => .long a.toInt64) (fun H locs lsM a r k1 k2 k => lv_i2l hx hb (zok_plain hok (fun _ _ => rfl)) rfl k) hI hk
  | i2b => exact zs_i1 (f := fun a => .int a.toInt8.toInt32) (fun H locs lsM a r k1 k2 k => lv_i2b hx hb (zok_plain hok (fun _ _ => rfl)) rfl k) hI hk
  | i2s => exact zs_i1 (f := fun a => .int a.toInt16.toInt32) (fun H locs lsM a r k1 k2 k => lv_i2s hx hb (zok_plain hok (fun _ _ => rfl)) rfl k) hI hk
  | i2c => exact zs_i1 (f := fun a => .int (a.toUInt32 % 65536).toInt32) (fun H locs lsM a r k1 k2 k => lv_i2c hx hb (zok_plain hok (fun _ _ => rfl)) rfl k) hI hk
  | l2i =>
    have hd := zok_plain hok (fun _ _ => rfl)
    simp only [zI] at hI
    split at hI
    · exact zs_go (fun kk H locs lsM hH hL hl => lv_l2i hx hb hd rfl (kk H locs lsM hH hL hl)) hI hk
    · cases hI
  | ladd => exact zs_l2 (fun H locs lsM a b r k1 k2 k => lv_ladd hx hb (zok_plain hok (fun _ _ => rfl)) k) hI hk
  | land => exact zs_l2 (fun H locs lsM a b r k1 k2 k => lv_land hx hb (zok_plain hok (fun _ _ => rfl)) k) hI hk
  | lor => exact zs_l2 (fun H locs lsM a b r k1 k2 k => lv_lor hx hb (zok_plain hok (fun _ _ => rfl)) k) hI hk
  | lshl =>
    have hd := zok_plain hok (fun _ _ => rfl)
    simp only [zI] at hI
    split at hI
    · exact zs_go (fun kk H locs lsM hH hL hl => lv_lshl hx hb hd rfl (kk H locs lsM hH hL hl)) hI hk
    · cases hI
  | lshr =>
    have hd := zok_plain hok (fun _ _ => rfl)
    simp only [zI] at hI
    split at hI
    · exact zs_go (fun kk H locs lsM hH hL hl => lv_lshr hx hb hd rfl (kk H locs lsM hH hL hl)) hI hk
    · cases hI
  | lcmp =>
    have hd := zok_plain hok (fun _ _ => rfl)
    simp only [zI] at hI
    split at hI
    · exact zs_go (fun kk H locs lsM hH hL hl => W.lcmp hx hb hd (kk H locs lsM hH hL hl)) hI hk
    · cases hI
  | dup =>
    have hd := zok_plain hok (fun _ _ => rfl)
    simp only [zI] at hI
    split at hI
    · split at hI
      · rename_i h1
        exact zs_go (fun kk H locs lsM hH hL hl => lv_dup hx hb hd (by rw [zv_cat hxv]; exact h1) (kk H locs lsM hH hL hl)) hI hk
      · cases hI
    · cases hI
  | pop =>
    have hd := zok_plain hok (fun _ _ => rfl)
    simp only [zI] at hI
    split at hI
    · split at hI
      · rename_i h1
        exact zs_go (fun kk H locs lsM hH hL hl => lv_pop hx hb hd (by rw [zv_cat hxv]; exact h1) (kk H locs lsM hH hL hl)) hI hk
      · cases hI
    · cases hI
  | dup_x1 =>
    have hd := zok_plain hok (fun _ _ => rfl)
    simp only [zI] at hI
    split at hI
    · split at hI
      · rename_i h1
        exact zs_go (fun kk H locs lsM hH hL hl => lv_dup_x1 hx hb hd (by rw [zv_cat hxv]; exact h1.1) (by rw [zv_cat hxv]; exact h1.2) (kk H locs lsM hH hL hl)) hI hk
      · cases hI
    · cases hI
  | dup2 =>
    have hd := zok_plain hok (fun _ _ => rfl)
    simp only [zI] at hI
    split at hI
    · split at hI
      · rename_i h1
        exact zs_go (fun kk H locs lsM hH hL hl => lv_dup2_11 hx hb hd (by rw [zv_cat hxv]; exact h1.1) (by rw [zv_cat hxv]; exact h1.2) (kk H locs lsM hH hL hl)) hI hk
      · cases hI
    · cases hI
  | goto o =>
    have hd := zok_plain hok (fun _ _ => rfl)
    exact zs_jmp (fun t ht kk H locs lsM hH hL hl => lv_goto hx hb hd ht (kk H locs lsM hH hL hl)) hI hk
  | ifCond cn o =>
    have hd := zok_plain hok (fun _ _ => rfl)
    simp only [zI] at hI
    split at hI
    · exact zs_if hx hb (zP_if hP) hd hI hk
    · cases hI
  | if_icmp cn o =>
    have hd := zok_plain hok (fun _ _ => rfl)
    simp only [zI] at hI
    split at hI
    · exact zs_icmp hx hb (zP_icmp hP) hd hI hk
    · cases hI
  | ifnull o =>
    have hd := zok_plain hok (fun _ _ => rfl)
    simp only [zI] at hI
    split at hI
    · exact zs_jmp (fun t ht kk H locs lsM hH hL hl => lv_ifnullN hx hb hd ht (kk H locs lsM hH hL hl)) hI hk
    · rename_i a r
      split at hI
      · rename_i ha
        refine zs_go (fun kk H locs lsM hH hL hl => ?_) hI hk
        show W p l e R s m args below meth c H locs _ _ Q (F0 m pc lsM (zv B xv (.ref a) :: r.map (zv B xv)))
        rw [zv_ref ha]
        exact lv_ifnull hx hb hd (kk H locs lsM hH hL hl)
      · cases hI
    · cases hI
  | ifnonnull o =>
    have hd := zok_plain hok (fun _ _ => rfl)
    simp only [zI] at hI
    split at hI
    · exact zs_go (fun kk H locs lsM hH hL hl => lv_ifnonnullN hx hb hd (kk H locs lsM hH hL hl)) hI hk
    · rename_i a r
      split at hI
      · rename_i ha
        refine zs_jmp (fun t ht kk H locs lsM hH hL hl => ?_) hI hk
        show W p l e R s m args below meth c H locs _ _ Q (F0 m pc lsM (zv B xv (.ref a) :: r.map (zv B xv)))
        rw [zv_ref ha]
        exact lv_ifnonnull hx hb hd ht (kk H locs lsM hH hL hl)
      · cases hI
    · cases hI
  | tableswitch d lo hi offs =>
    obtain ⟨i0, len, hd, h1⟩ := zok_dec hok
    have h1 : i0 = .tableswitch d lo hi offs := of_decide_eq_true h1
    subst h1
    simp only [zI] at hI
    split at hI
    · rename_i x r
      split at hI
      · rename_i h2
        exact zs_jmp (fun t ht kk H locs lsM hH hL hl => lv_tableOut hx hb hd h2 ht (kk H locs lsM hH hL hl)) hI hk
      · rename_i h2
        split at hI
        · rename_i o ho
          exact zs_jmp (fun t ht kk H locs lsM hH hL hl => lv_tableIn hx hb hd (fun h => h2 (Or.inl h)) (fun h => h2 (Or.inr h)) ho ht (kk H locs lsM hH hL hl)) hI hk
        · cases hI
    · cases hI
  | lookupswitch d ps =>
    obtain ⟨i0, len, hd, h1⟩ := zok_dec hok
    have h1 : i0 = .lookupswitch d ps := of_decide_eq_true h1
    subst h1
    simp only [zI] at hI
    split at hI
    · rename_i x r
      split at hI
      · rename_i h2
        exact zs_jmp (fun t ht kk H locs lsM hH hL hl => lv_lookup hx hb hd h2 rfl ht (kk H locs lsM hH hL hl)) hI hk
      · cases hI
    · cases hI
  | iaload =>
    have hd := zok_plain hok (fun _ _ => rfl)
    refine zs_ald (t := fun ty => ty = .int) hK (fun k h => ?_) (fun H locs lsM q cell ty j v r k1 k2 ht hc ha hn hj hv k => ?_) hI hk
    · have : k = 100 := by simpa using h
      subst this
      exact ⟨by omega, rfl⟩
    · subst ht
      exact W.iald hx hb hc ha hn hj hv rfl rfl hd k
  | caload =>
    have hd := zok_plain hok (fun _ _ => rfl)
    refine zs_ald (t := fun ty => ty = .char) hK (fun k h => ?_) (fun H locs lsM q cell ty j v r k1 k2 ht hc ha hn hj hv k => ?_) hI hk
    · have : k = 101 := by simpa using h
      subst this
      exact ⟨by omega, rfl⟩
    · subst ht
      exact W.cald hx hb hc ha hn hj hv rfl rfl hd k
  | baload =>
    have hd := zok_plain hok (fun _ _ => rfl)
    refine zs_ald (t := fun ty => ty = .byte) hK (fun k h => ?_) (fun H locs lsM q cell ty j v r k1 k2 ht hc ha hn hj hv k => ?_) hI hk
    · have : k = 103 := by simpa using h
      subst this
      exact ⟨by omega, rfl⟩
    · subst ht
      exact W.bald hx hb hc ha hn hj hv rfl rfl hd k
  | aaload =>
    have hd := zok_plain hok (fun _ _ => rfl)
    refine zs_ald (t := fun ty => ty.isReference = true) hK (fun k h => ?_) (fun H locs lsM q cell ty j v r k1 k2 ht hc ha hn hj hv k => ?_) hI hk
    · have h : 200 ≤ k := of_decide_eq_true h
      refine ⟨by omega, ?_⟩
      unfold zkt
      rw [if_neg (by omega), if_neg (by omega), if_neg (by omega)]
      rfl
    · exact W.aald hx hb hc ha ht hn hj hv rfl rfl hd k
  | iastore =>
    have hd := zok_plain hok (fun _ _ => rfl)
    refine zs_ast (f := fun v => v) hK (fun k v h => ?_) (fun k v h => rfl) (fun k v h _ => ?_) (fun H locs lsM q k cell j v r k1 k2 hH hkd hc ha hvm hcls hkind hin kk => ?_) hI hk
    · simp only [Bool.and_eq_true, beq_iff_eq] at h; omega
    · simp only [Bool.and_eq_true] at h; exact h.2
    · simp only [Bool.and_eq_true, beq_iff_eq] at hkd
      obtain ⟨rfl, hv⟩ := hkd
      cases v with
      | int x => exact W.iast hx hb hc ha (by rw [hvm]; exact fun h => (by cases h)) hin rfl rfl hd kk
      | _ => cases hv
  | castore =>
    have hd := zok_plain hok (fun _ _ => rfl)
    refine zs_ast hK (fun k v h => ?_) (fun k v h => ?_) (fun k v h h100 => ?_) (fun H locs lsM q k cell j v r k1 k2 hH hkd hc ha hvm hcls hkind hin kk => ?_) hI hk
    · simp only [Bool.and_eq_true, beq_iff_eq] at h; omega
    · simp only [Bool.and_eq_true] at h
      cases v with
      | int x => rfl
      | _ => cases h.2
    · simp only [Bool.and_eq_true, beq_iff_eq] at h; omega
    · simp only [Bool.and_eq_true, beq_iff_eq] at hkd
      obtain ⟨rfl, hv⟩ := hkd
      cases v with
      | int x => exact W.cast hx hb hc ha (by rw [hvm]; exact fun h => (by cases h)) hin rfl rfl hd kk
      | _ => cases hv
  | aastore => exact zs_aast hC (zok_plain hok (fun _ _ => rfl)) hI hk
  | arraylength =>
    have hd := zok_plain hok (fun _ _ => rfl)
    simp only [zI] at hI
    split at hI
    · split at hI
      · rename_i k vs hr
        split at hI
        · rename_i h100
          exact zs_alen hC hd hr h100 hI hk
        · cases hI
      · cases hI
    · cases hI
  | getfield n =>
    obtain ⟨i0, len, hd, h1⟩ := zok_dec hok
    simp only [zokD] at h1
    split at h1
    · simp only [Bool.and_eq_true, Bool.or_eq_true, decide_eq_true_eq] at h1
      obtain ⟨rfl, h3 | h3⟩ := h1
      · exact zs_getf hC h3 hd hI hk
      · exact zs_getf hC h3 hd hI hk
    · cases h1
  | putfield n =>
    obtain ⟨i0, len, hd, h1⟩ := zok_dec hok
    simp only [zokD] at h1
    split at h1
    · simp only [Bool.and_eq_true, decide_eq_true_eq] at h1
      obtain ⟨rfl, h2⟩ := h1
      split at h2
      · rename_i hf
        simp only [Bool.and_eq_true, decide_eq_true_eq] at h2
        exact zs_putf hC h2.1.1.1 h2.2 (fun _ => ⟨rfl, h2.1.1.2, h2.1.2⟩) hd hI hk
      · rename_i hf
        simp only [Bool.and_eq_true, Bool.or_eq_true, decide_eq_true_eq] at h2
        rcases h2.2 with h3 | h3
        · exact zs_putf hC h3 h2.1 (fun h => absurd h hf) hd hI hk
        · exact zs_putf hC h3 h2.1 (fun h => absurd h hf) hd hI hk
    · cases h1
  | new n =>
    obtain ⟨i0, len, hd, h1⟩ := zok_dec hok
    simp only [zokD] at h1
    split at h1
    · simp only [Bool.and_eq_true, decide_eq_true_eq] at h1
      obtain ⟨rfl, h2⟩ := h1
      simp only [zI] at hI
      split at hI
      · exact zs_new hC h2 hd hn0 hs0 hI hR hk
      · cases hI
    · cases h1
  | newarray t =>
    have hd := zok_plain hok (fun _ _ => rfl)
    simp only [zI] at hI
    split at hI
    · exact zs_newa hC (Or.inl ⟨rfl, rfl, rfl⟩) hd hn0 hs0 zw_aC hI hR hk
    · exact zs_newa hC (Or.inr ⟨rfl, rfl, rfl⟩) hd hn0 hs0 zw_aC hI hR hk
    · cases hI
  | anewarray n =>
    have hq := zP_anew hP
    obtain ⟨i0, len, hd, h1⟩ := zok_dec hok
    simp only [zokD] at h1
    split at h1
    · simp only [Bool.and_eq_true, decide_eq_true_eq] at h1
      obtain ⟨⟨rfl, -⟩, h2⟩ := h1
      simp only [zI] at hI
      split at hI
      · exact zs_anew hC h2 hq hd hn0 hs0 hI hR hk
      · cases hI
    · cases h1
  | invokevirtual n => exact (zinv_ngo hI).elim
  | invokespecial n =>
    simp only [zI] at hI
    split at hI
    · rename_i h998
      subst h998
      obtain ⟨i0, len, hd, h1⟩ := zok_dec hok
      simp only [zokD] at h1
      split at h1
      · simp only [if_pos, Bool.and_eq_true, decide_eq_true_eq] at h1
        obtain ⟨rfl, ⟨h2, h3⟩, h4⟩ := h1
        split at hI
        · split at hI
          · rename_i h5
            exact zs_oi hC h2 h3 h4 hd h5.1 h5.2 hI hk
          · cases hI
        · cases hI
      · cases h1
    · exact (zinv_ngo hI).elim
  | invokestatic n =>
    simp only [zI] at hI
    split at hI
    · rename_i h999
      subst h999
      obtain ⟨i0, len, hd, h1⟩ := zok_dec hok
      simp only [zokD] at h1
      split at h1
      · simp only [if_pos, Bool.and_eq_true, decide_eq_true_eq] at h1
        obtain ⟨rfl, ⟨h2, h3⟩, h4⟩ := h1
        exact zs_acp hC h2 h3 h4 hd hI hk
      · cases h1
    · exact (zinvS_ngo hI).elim
  | ireturn =>
    simp only [zI] at hI
    split at hI
    · split at hI
      · split at hI
        · cases hI
        · cases hI
      · cases hI
    · cases hI
  | lreturn =>
    simp only [zI] at hI
    split at hI
    · split at hI
      · cases hI
      · cases hI
    · cases hI
  | areturn =>
    simp only [zI] at hI
    split at hI
    · split at hI
      · split at hI
        · cases hI
        · cases hI
      · cases hI
    · cases hI
  | return_ =>
    simp only [zI] at hI
    split at hI
    · split at hI
      · cases hI
      · cases hI
    · cases hI
  | _ => cases hI
end ZU
