/-! CALLS, AND THE SIMULATION -/
theorem zNW_nest {w : Cond} (h : w ∈ zNW) : (∃ a i b n d q, w = .fieldLinkNest a i b n d q) ∨ ∃ a i x q, w = .methodLinkNest a i x q := by
  have h1 := (List.mem_filter.mp h).2
  unfold zisN at h1
  split at h1
  · exact Or.inl ⟨_, _, _, _, _, _, rfl⟩
  · exact Or.inr ⟨_, _, _, _, rfl⟩
  · cases h1
section ZKK
variable {B : Nat} {xv : Nat → Value} {D : va_G} {dA : Nat → ClassId} {H0 : Heap} {xs : Option (List Value)}
theorem zK.warm {s U : State} (hW : s.WarmedH U.vm) (h : zK B xv D dA H0 xs s) : zK B xv D dA H0 xs U := by
  obtain ⟨h1, h2, h3, h4, ⟨adK, adV, g1, g2, g3⟩, h5, h6, b, f, k1, k2, k3⟩ := h
  have hal := hW.alike
  refine ⟨va_K.moved hal h1, fun w hw => ?_, fun k hk => va_AO.moved hal (h3 k hk), h4, ⟨adK, adV, vk_S.moved hal g1, g2, fun e he => vk_R.warm hW (g3 e he)⟩, va_Z.moved hal h5, va_Z.moved hal h6, b, f, k1, k2, fun l hl => ⟨(k3 l hl).1, va_X.moved hal (k3 l hl).2.1, (k3 l hl).2.2⟩⟩
  have hz := h2 w hw
  rcases zNW_nest hw with ⟨a, i, b, n, d, q, rfl⟩ | ⟨a, i, x, q, rfl⟩
  · exact va_Nw.warmF hW hz
  · exact va_Nw.warmM hW hz
theorem zK.same {s U : State} (hv : U.vm = s.vm) (h : zK B xv D dA H0 xs s) : zK B xv D dA H0 xs U := by
  obtain ⟨h1, h2, h3, h4, ⟨adK, adV, g1, g2, g3⟩, h5, h6, b, f, k1, k2, k3⟩ := h
  have hal : s.vm.Alike U.vm := by rw [hv]; exact Vm.Alike.refl _
  refine ⟨va_K.moved hal h1, fun w hw => ?_, fun k hk => va_AO.moved hal (h3 k hk), h4, ⟨adK, adV, vk_S.moved hal g1, g2, fun e he => vk_R.same hv (g3 e he)⟩, va_Z.moved hal h5, va_Z.moved hal h6, b, f, k1, k2, fun l hl => ⟨(k3 l hl).1, va_X.moved hal (k3 l hl).2.1, (k3 l hl).2.2⟩⟩
  have hz := h2 w hw
  rcases zNW_nest hw with ⟨a, i, b, n, d, q, rfl⟩ | ⟨a, i, x, q, rfl⟩
  · exact va_Nw.same rfl hv.symm hz
  · exact va_Nw.same rfl hv.symm hz
/-- a contract's start and end -/
def zPc (B : Nat) (xv : Nat → Value) (D : va_G) (dA : Nat → ClassId) (H0 : Heap) (xs : Option (List Value)) (vs : List Value) (w : zH) : Array Value → State → Prop := fun a U => a = (vs.map (zv B xv)).toArray ∧ zHR B xv D dA H0 w U.heap ∧ zK B xv D dA H0 xs U
def zQc (B : Nat) (xv : Nat → Value) (D : va_G) (dA : Nat → ClassId) (H0 : Heap) (v : Option Value) (wf : zH) : Array Value → State → Outcome → State → Prop := fun _ _ o t => o = .returned (v.map (zv B xv)) ∧ zHR B xv D dA H0 wf t.heap
theorem zPc_blind {vs : List Value} {w : zH} : FrameBlind (zPc B xv D dA H0 xs vs w) := fun a U g mk h => ⟨h.1, h.2.1, zK.same (s := U) (U := U.calling g mk a) rfl h.2.2⟩
def zrm (n : Nat) (w wf : zH) : Room := { frames := (zF.getD n (0, 0)).1, cells := wf.length - w.length, slots := zsz wf - zsz w, locals := (zF.getD n (0, 0)).2 }
def zMet (l : Launch) (B : Nat) (xv : Nat → Value) (D : va_G) (dA : Nat → ClassId) (H0 : Heap) (xs : Option (List Value)) (n : Nat) (vs : List Value) (w : zH) (v : Option Value) (wf : zH) : Prop :=
  Met l (zN.getD n objectInit) (zcw n :: zG) (zrm n w wf) (zPc B xv D dA H0 xs vs w) (zQc B xv D dA H0 v wf) (wf.length - w.length) (zsz wf - zsz w) (fun q => B ≤ q)
end ZKK
theorem zofW {l : Launch} {y : MethodName} {ws ws' : List Cond} {rm : Room} {Pc : Array Value → State → Prop} {Qc : Array Value → State → Outcome → State → Prop} {mc ms : Nat} {free : Addr → Prop} {cc : ByteArray} {maxL : Nat} {ret : Option FieldType}
    (hy : plainFor y = true) (hw : ws = Cond.code y cc maxL ret :: ws')
    (body : ∀ p e s m args below meth c s₁, BodyLoose p l y (headSpec ws rm) cc maxL ret e s m args below meth c s₁ → c.maxLocals = maxL → Pc args s →
      W p l e (headSpec ws rm).room s m args below meth c s.heap [] 0 0 (MQ below Qc args s mc ms free) (entryFrame m args maxL)) : Met l y ws rm Pc Qc mc ms free := by
  refine MetFree.of_bodySF (code := cc) (maxLocals := maxL) (ret := ret) hy ?_ ?_
  · intro args s m h hn
    obtain ⟨meth, c, h1, h2, h3, h4, h5, h6, -, -⟩ := Cond.code_spec hn (atoms_spec (ws := ws) h _ (by rw [hw]; exact List.mem_cons_self))
    exact ⟨meth, c, h1, h2, h3, h4, h5, h6⟩
  · intro p e s m args below meth c s₁ B hml hP _
    have hh0 : s₁.heap = s.heap := by rw [B.state]; rfl
    obtain ⟨t, a1, o, b1, b2, b3⟩ := body p e s m args below meth c s₁ B hml hP s₁ hh0 (Stand.of_body B)
    exact ⟨t, o, a1, b1, b2, ⟨b3.1, b3.2⟩⟩
section ZSIM
variable {B : Nat} {xv : Nat → Value} {D : va_G} {dA : Nat → ClassId} {H0 : Heap} {xs : Option (List Value)}
variable {p : Program} {l : Launch} {e : Env} {R : Room} {s : State} {m : MethodId} {args : Array Value} {below : List Frame} {meth : Method} {c : Code} {Q : State → Prop} {y n0 s0 : Nat}
/-- a method's end, in a contract -/
theorem zs_end {H : Heap} {locs : List Loc} {lsM : Array Slot} {pc : Nat} {v : Option Value} {wf : zH} {k1 k2 : Nat} (hC : zCx B xv D dA H0 xs p R s m args meth c y) (hH : zHR B xv D dA H0 wf H) (hl : ∀ q ∈ locs, B ≤ q.base) (hrt : zRt y pc v) : W p l e R s m args below meth c H locs k1 k2 (MQ below (zQc B xv D dA H0 v wf) args s k1 k2 (fun q => B ≤ q)) (F0 m pc lsM (v.toList.map (zv B xv))) := by
  obtain ⟨hx, hb, hml, hown, hts, hr, hlk, hin, hfr, hlo, hK⟩ := hC
  rcases hrt with ⟨rfl, hd, hq⟩ | ⟨x, ty, rfl, hd, hq, hn⟩ | ⟨x, rfl, hd, hq⟩ | ⟨u, C, rfl, hu, hd, hq⟩
  · exact W.vret hx hb (by rw [hr, hq]) (fun t ht _ => ⟨rfl, by rw [ht]; exact hH⟩) hl hd hlk
  · exact W.zret hx hb (by rw [hr, hq]) hn (fun t ht _ => ⟨rfl, by rw [ht]; exact hH⟩) hl hd hlk
  · exact W.lret hx hb (by rw [hr, hq]) (fun t ht _ => ⟨rfl, by rw [ht]; exact hH⟩) hl hd hlk
  · exact W.aret hx hb (by rw [hr, hq]) (Or.inl ⟨C, rfl⟩) (zv_isref hK.2.2.2.1 hu) (fun t ht _ => ⟨rfl, by rw [ht]; exact hH⟩) hl hd hlk
/-- behind a call -/
theorem zs_back {pc : Nat} {ls st rest : List Value} {w w1 : zH} {v1 : Option Value} (hn0 : n0 ≤ w.length) (hs0 : s0 ≤ zsz w) (h1 : w.length ≤ w1.length) (h2 : zsz w ≤ zsz w1)
    (hrun : ∀ (H : Heap) (locs : List Loc) (lsM : Array Slot), zHR B xv D dA H0 w H → zLR B xv lsM (zM.getD y (0, 0, 0)).2.2 ls → va_Run p l e R s m args below meth c H locs (w.length - n0) (zsz w - s0) (w1.length - w.length) (zsz w1 - zsz w) (F0 m pc lsM (st.map (zv B xv))) (rest.map (zv B xv)) (fun _ o t => o = .returned (v1.map (zv B xv)) ∧ zHR B xv D dA H0 w1 t.heap) (fun q => B ≤ q))
    (hk : zW B xv D dA H0 p l e R s m args below meth c Q (zM.getD y (0, 0, 0)).2.2 n0 s0 (pc + 3) ls (v1.toList ++ rest) w1) : zW B xv D dA H0 p l e R s m args below meth c Q (zM.getD y (0, 0, 0)).2.2 n0 s0 pc ls st w := by
  intro H locs lsM hH hL hl T hT X
  obtain ⟨v, st0, t, T', L, h0, X', hL', e1, e2, ⟨hv, hH1⟩, goes⟩ := hrun H locs lsM hH hL T hT X
  have hv : v = v1.map (zv B xv) := by cases hv; rfl
  subst hv
  rw [show w.length - n0 + (w1.length - w.length) = w1.length - n0 by omega, show zsz w - s0 + (zsz w1 - zsz w) = zsz w1 - s0 by omega] at X'
  obtain ⟨t2, a1, b1⟩ := hk T'.heap (locs ++ L) lsM (by rw [e1]; exact hH1) hL (fun q hq => by
    rcases List.mem_append.mp hq with h | h
    · exact hl q h
    · exact hL' q h) T' rfl X'
  refine ⟨t2, goes t2 ?_, b1⟩
  have e3 : (v1.toList ++ rest).map (zv B xv) = (v1.map (zv B xv)).toList ++ rest.map (zv B xv) := by cases v1 <;> rfl
  rw [e3] at a1
  exact a1
/-- the receiver of a call -/
theorem zs_recv {w : zH} {H : Heap} {n : Nat} {v : Value} (hK : zK B xv D dA H0 xs s) (hH : zHR B xv D dA H0 w H) (hn : (zM.getD n (99, 0, 0)).1 < 14) (h : zrc xs n w v = true) : ∃ (b : Nat) (cell : Cell), zv B xv v = .ref b ∧ H[b]? = some cell ∧ cell.vm.isStatics = false ∧ s.vm.findClass (zO.getD (zM.getD n (99, 0, 0)).1 "") = some cell.cls := by
  unfold zrc at h
  split at h
  · rename_i a
    split at h
    · rename_i k vs hr
      have hk : k = (zM.getD n (99, 0, 0)).1 := of_decide_eq_true h
      rw [← hk] at hn ⊢
      unfold zr at hr
      split at hr
      · rename_i ha
        obtain ⟨cell, g1, g2, ⟨c1, c2, c3, -⟩ | ⟨c1, -⟩⟩ := hH.2.2.2 a _ hr
        · dsimp only at c1 c2 c3
          obtain ⟨C, T, N, h1⟩ := zvw_some c1
          have hz := zvw h1
          refine ⟨B + a, cell, zv_ref ha, g1, by rw [g2]; rfl, ?_⟩
          rw [hz.2.2.2.2.2.2.2.2.1, c3]
          exact (hK.1.1 k _ h1).2.1
        · dsimp only at c1
          rcases c1 with c1 | c1 | c1
          · omega
          · omega
          · have := zqk_ge c1; omega
      · rename_i ha
        have hzv : zv B xv (.ref a) = xv (a - zX) := by simp [zv, ha]
        unfold zE at hr
        split at hr
        · rename_i h6
          cases hr
          obtain ⟨-, ⟨adK, adV, hS, hxv, -⟩, -⟩ := hK.2.2.2
          have hkeep : ∀ q : Nat, q < H0.size → ¬ (fun q => B ≤ q) q → H[q]? = H0[q]? := fun q _ h => hH.2.2.1 q (Nat.lt_of_not_le h)
          obtain ⟨cell, g1, g2, g3, -⟩ := (hS.1 _ h6).1.kept hkeep
          exact ⟨adK (a - zX), cell, by rw [hzv]; exact (hxv _ h6).1, g1, g2, g3⟩
        · split at hr
          · obtain ⟨l, -, hr⟩ := Option.map_eq_some_iff.mp hr
            cases hr; omega
          · split at hr
            · cases hr
            · cases hs : zS[a - zX - 10]? with
              | none => rw [hs] at hr; cases hr
              | some str => rw [hs] at hr; cases hr; omega
    · cases h
  · cases h
theorem zM_get {n : Nat} {k np mL : Nat} (h : zM[n]? = some (k, np, mL)) (d : Nat × Nat × Nat) : zM.getD n d = (k, np, mL) := by
  rw [List.getD_eq_getElem?_getD, h]; rfl
theorem zroom_get {y n : Nat} (h : zroom y n = true) : (zF.getD n (0, 0)).1 + 1 ≤ (zF.getD y (0, 0)).1 ∧ 8 + ((zM.getD n (0, 0, 0)).2.2 + 11) + (zF.getD n (0, 0)).2 ≤ (zF.getD y (0, 0)).2 ∧ n < 242 := by
  unfold zroom at h
  simp only [Bool.and_eq_true, decide_eq_true_eq] at h
  exact ⟨h.1.1, h.1.2, h.2⟩
/-- THE CALLS -/
theorem zs_call {i : Instr} {pc : Nat} {ls st rest vs : List Value} {w w1 wf : zH} {v1 : Option Value} {n : Nat} {b : Bool} (hC : zCx B xv D dA H0 xs p R s m args meth c y) (hP : zP y pc = some i) (hi : (b = true ∧ (i = .invokevirtual n ∨ i = .invokespecial n ∧ n ≠ 998)) ∨ (b = false ∧ i = .invokestatic n ∧ n ≠ 999)) (hcl : zCl xs w n vs st rest b) (hM : zMet l B xv D dA H0 xs n vs w v1 w1)
    (hn0 : n0 ≤ w.length) (hs0 : s0 ≤ zsz w) (h1 : w.length ≤ w1.length) (h2 : zsz w ≤ zsz w1) (hR : w1.length - n0 ≤ R.cells ∧ zsz w1 - s0 ≤ R.slots) (hk : zW B xv D dA H0 p l e R s m args below meth c Q (zM.getD y (0, 0, 0)).2.2 n0 s0 (pc + 3) ls (v1.toList ++ rest) w1) : zW B xv D dA H0 p l e R s m args below meth c Q (zM.getD y (0, 0, 0)).2.2 n0 s0 pc ls st w := by
  refine zs_back hn0 hs0 h1 h2 (fun H locs lsM hH hL => ?_) hk
  obtain ⟨hx, hb, hml, hown, hts, hrt, hlk, hin, hfr, hlo, hK⟩ := id hC
  have hok := zP_ok hP
  obtain ⟨i0, len, hd, hz⟩ := zok_dec hok
  obtain ⟨hcat, hlen, As, hAs, hsh⟩ := hcl
  have hroomW : 2 * (F0 m pc lsM (st.map (zv B xv))).monitorRoom + ((rest.map (zv B xv)).map fun v => v.category).sum ≤ 8 := by
    rw [zv_cats hK.2.2.2.1]
    show 2 * 0 + zcat rest ≤ 8
    omega
  have hpre : ∀ U : State, U.heap = H → s.WarmedH U.vm → zPc B xv D dA H0 xs vs w (vs.map (zv B xv)).toArray U := fun U hU hW => ⟨rfl, by rw [hU]; exact hH, zK.warm hW hK⟩
  have hfit : w.length - n0 + (w1.length - w.length) ≤ R.cells ∧ zsz w - s0 + (zsz w1 - zsz w) ≤ R.slots := by omega
  rcases hi with ⟨rfl, hi⟩ | ⟨rfl, hi, hn999⟩
  · rcases hsh with ⟨-, v, rfl, rfl, hrc⟩ | ⟨hb0, -⟩
    · have hmap : ((As ++ v :: rest).map (zv B xv)) = ((As.reverse).map (zv B xv)).reverse ++ zv B xv v :: rest.map (zv B xv) := by
        rw [List.map_append, List.map_cons, List.map_reverse, List.reverse_reverse]
      have hAl : ((As.reverse).map (zv B xv)).length = (zM.getD n (0, 0, 0)).2.1 := by rw [List.length_map, List.length_reverse]; exact hAs
      rcases hi with rfl | ⟨rfl, hn998⟩
      · simp only [zokD] at hz
        split at hz
        · rename_i k
          simp only [Bool.and_eq_true, Bool.or_eq_true, decide_eq_true_eq] at hz
          obtain ⟨⟨⟨⟨rfl, hml2⟩, hroom⟩, hk14⟩, hni⟩ := hz
          obtain ⟨r1, r2, r3⟩ := zroom_get hroom
          obtain ⟨kc, np, mL, m1, m2, m3, m4, m5, m6, m7⟩ := zY_get r3
          have eM : zM.getD n (0, 0, 0) = (kc, np, mL) := zM_get m1 _
          have eM9 : zM.getD n (99, 0, 0) = (kc, np, mL) := zM_get m1 _
          rw [eM] at hk14 hAl r2
          dsimp only at hk14 hAl r2
          obtain ⟨q, cell, g1, g2, g3, g4⟩ := zs_recv hK hH (by rw [eM9]; exact hk14) hrc
          rw [eM9] at g4
          dsimp only at g4
          obtain ⟨i1, i2 | ⟨i2, i3⟩⟩ := m7 (by omega)
          · exact absurd i2 hni
          have hzo : zO.getD kc "" = (zN.getD n objectInit).cls := by rw [List.getD_eq_getElem?_getD, i2]; rfl
          rw [hzo] at g4
          rw [hmap, g1]
          have hvs : (v :: As.reverse).map (zv B xv) = .ref q :: (As.reverse).map (zv B xv) := by rw [List.map_cons, g1]
          rw [hvs] at hpre
          have hG : GoodIn zG (zcw n :: zG) := fun w hw => by
            rcases List.mem_cons.mp hw with rfl | hw
            · exact zG_good _ (zcw_G r3)
            · exact zG_good _ hw
          have hcw : (zcw n :: zG) = Cond.code (zN.getD n objectInit) (zCd.getD n ⟨#[]⟩) mL (zQ.getD n none) :: zG := by unfold zcw; rw [eM]
          rcases hml2 with hml2 | hml2
          · have hl := (zML_get hml2 r3).1 rfl
            have cw := va_cnB (R := R) (own := zO.getD (zOw.getD y 0) "") (host := RX11) (index := k) (rm := zrm n w w1) np hts hG hcw rfl rfl (hK.2.1 _ hl) (hts _ m2) ⟨m3.1, m3.2, m4⟩ (by rw [hfr, hlo]; exact ⟨r1, r2⟩)
            exact va_runVN ⟨hx, hb, hml, hown, hts⟩ hM ⟨cw, hts _ i1, hts _ i3⟩ ⟨zPc_blind, ⟨cell, g2, g3, g4⟩, hpre⟩ rfl hAl hL.1 rfl (by rw [← g1, ← hmap]; exact hroomW) hd hfit
          · have hl := (zML_get hml2 r3).2 rfl
            have cw := callB_of (R := R) (own := zO.getD (zOw.getD y 0) "") (index := k) (rm := zrm n w w1) np hts hG hcw rfl rfl (hts _ m2) (hts _ hl) ⟨m3.1, m3.2, m4⟩ (by rw [hfr, hlo]; exact ⟨r1, r2⟩)
            exact va_runV ⟨hx, hb, hml, hown, hts⟩ hM ⟨cw, hts _ i1, hts _ i3⟩ ⟨zPc_blind, ⟨cell, g2, g3, g4⟩, hpre⟩ rfl hAl hL.1 rfl (by rw [← g1, ← hmap]; exact hroomW) hd hfit
        · cases hz
      · simp only [zokD] at hz
        split at hz
        · rename_i k
          rw [if_neg hn998] at hz
          simp only [Bool.and_eq_true, Bool.or_eq_true, decide_eq_true_eq] at hz
          obtain ⟨rfl, ⟨⟨⟨hml2, hroom⟩, hk14⟩, hni⟩, hrn⟩ := hz
          obtain ⟨r1, r2, r3⟩ := zroom_get hroom
          obtain ⟨kc, np, mL, m1, m2, m3, m4, m5, m6, m7⟩ := zY_get r3
          have eM : zM.getD n (0, 0, 0) = (kc, np, mL) := zM_get m1 _
          have eM9 : zM.getD n (99, 0, 0) = (kc, np, mL) := zM_get m1 _
          rw [eM] at hk14 hAl r2
          dsimp only at hk14 hAl r2
          obtain ⟨q, cell, g1, g2, g3, g4⟩ := zs_recv hK hH (by rw [eM9]; exact hk14) hrc
          obtain ⟨i1, -⟩ := m7 (by omega)
          rw [hmap, g1]
          have hvs : (v :: As.reverse).map (zv B xv) = .ref q :: (As.reverse).map (zv B xv) := by rw [List.map_cons, g1]
          rw [hvs] at hpre
          have hG : GoodIn zG (zcw n :: zG) := fun w hw => by
            rcases List.mem_cons.mp hw with rfl | hw
            · exact zG_good _ (zcw_G r3)
            · exact zG_good _ hw
          have hcw : (zcw n :: zG) = Cond.code (zN.getD n objectInit) (zCd.getD n ⟨#[]⟩) mL none :: zG := by unfold zcw; rw [eM, hrn]
          rcases hml2 with hml2 | hml2
          · have hl := (zML_get hml2 r3).1 rfl
            have cw := va_cnB (R := R) (own := zO.getD (zOw.getD y 0) "") (host := RX11) (index := k) (rm := zrm n w w1) np hts hG hcw rfl rfl (hK.2.1 _ hl) (hts _ m2) ⟨m3.1, m3.2, m4⟩ (by rw [hfr, hlo]; exact ⟨r1, r2⟩)
            exact va_runIN ⟨hx, hb, hml, hown, hts⟩ hM ⟨cw, hni, hts _ i1⟩ ⟨zPc_blind, hpre⟩ rfl hAl hL.1 rfl (by rw [← g1, ← hmap]; exact hroomW) hd hfit
          · have hl := (zML_get hml2 r3).2 rfl
            have cw := callB_of (R := R) (own := zO.getD (zOw.getD y 0) "") (index := k) (rm := zrm n w w1) np hts hG hcw rfl rfl (hts _ m2) (hts _ hl) ⟨m3.1, m3.2, m4⟩ (by rw [hfr, hlo]; exact ⟨r1, r2⟩)
            exact va_runI ⟨hx, hb, hml, hown, hts⟩ hM ⟨cw, hni, hts _ i1⟩ ⟨zPc_blind, hpre⟩ rfl hAl hL.1 rfl (by rw [← g1, ← hmap]; exact hroomW) hd hfit
        · cases hz
    · cases hb0
  · rcases hsh with ⟨hb0, -⟩ | ⟨-, rfl, rfl, hst⟩
    · cases hb0
    · have hmap : ((As ++ rest).map (zv B xv)) = ((As.reverse).map (zv B xv)).reverse ++ rest.map (zv B xv) := by
        rw [List.map_append, List.map_reverse, List.reverse_reverse]
      have hAl : ((As.reverse).map (zv B xv)).length = (zM.getD n (0, 0, 0)).2.1 := by rw [List.length_map, List.length_reverse]; exact hAs
      subst hi
      simp only [zokD] at hz
      split at hz
      · rename_i k
        rw [if_neg hn999] at hz
        simp only [Bool.and_eq_true, Bool.or_eq_true, decide_eq_true_eq] at hz
        obtain ⟨rfl, hml2, hroom⟩ := hz
        obtain ⟨r1, r2, r3⟩ := zroom_get hroom
        obtain ⟨kc, np, mL, m1, m2, m3, m4, m5, m6, m7⟩ := zY_get r3
        have eM : zM.getD n (0, 0, 0) = (kc, np, mL) := zM_get m1 _
        rw [eM] at hst hAl r2
        dsimp only at hst hAl r2
        have hs9 := hts _ (m6 hst)
        rw [hmap]
        have hG : GoodIn zG (zcw n :: zG) := fun w hw => by
          rcases List.mem_cons.mp hw with rfl | hw
          · exact zG_good _ (zcw_G r3)
          · exact zG_good _ hw
        have hcw : (zcw n :: zG) = Cond.code (zN.getD n objectInit) (zCd.getD n ⟨#[]⟩) mL (zQ.getD n none) :: zG := by unfold zcw; rw [eM]
        rcases hml2 with hml2 | hml2
        · have hl := (zML_get hml2 r3).1 rfl
          have cw := va_cnB (R := R) (own := zO.getD (zOw.getD y 0) "") (host := RX11) (index := k) (rm := zrm n w w1) np hts hG hcw rfl rfl (hK.2.1 _ hl) (hts _ m2) ⟨m3.1, m3.2, m4⟩ (by rw [hfr, hlo]; exact ⟨r1, r2⟩)
          exact va_runSN ⟨hx, hb, hml, hown, hts⟩ hM ⟨cw, hs9, trivial⟩ ⟨zPc_blind, hpre⟩ rfl hAl hL.1 rfl (by rw [← hmap]; exact hroomW) hd hfit
        · have hl := (zML_get hml2 r3).2 rfl
          have cw := callB_of (R := R) (own := zO.getD (zOw.getD y 0) "") (index := k) (rm := zrm n w w1) np hts hG hcw rfl rfl (hts _ m2) (hts _ hl) ⟨m3.1, m3.2, m4⟩ (by rw [hfr, hlo]; exact ⟨r1, r2⟩)
          exact va_runS ⟨hx, hb, hml, hown, hts⟩ hM ⟨cw, hs9⟩ ⟨zPc_blind, hpre⟩ rfl hAl hL.1 rfl (by rw [← hmap]; exact hroomW) hd hfit
      · cases hz
end ZSIM
