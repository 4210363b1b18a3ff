/-! THE SIMULATION: a run of the abstract machine to its end is one of the machine -/
section ZSIM2
variable {B : Nat} {xv : Nat → Value} {D : va_G} {dA : Nat → ClassId} {H0 : Heap} {xs : Option (List Value)}
/-- what is said of a run -/
def zSay (l : Launch) (B : Nat) (xv : Nat → Value) (D : va_G) (dA : Nat → ClassId) (H0 : Heap) (xs : Option (List Value)) (n : Nat) : Prop :=
  ∀ (y pc : Nat) (ls st : List Value) (w : zH) (v : Option Value) (wf : zH), zex xs n (y, pc, ls, st, w) = some (v, wf) →
    ∀ (p : Program) (e : Env) (R : Room) (s : State) (m : MethodId) (args : Array Value) (below : List Frame) (meth : Method) (c : Code) (Q : State → Prop) (n0 s0 : Nat), zCx B xv D dA H0 xs p R s m args meth c y → n0 ≤ w.length → s0 ≤ zsz w → wf.length - n0 ≤ R.cells → zsz wf - s0 ≤ R.slots →
      (∀ (pc' : Nat) (H : Heap) (locs : List Loc) (lsM : Array Slot), zHR B xv D dA H0 wf H → (∀ q ∈ locs, B ≤ q.base) → zRt y pc' v → W p l e R s m args below meth c H locs (wf.length - n0) (zsz wf - s0) Q (F0 m pc' lsM (v.toList.map (zv B xv)))) → zW B xv D dA H0 p l e R s m args below meth c Q (zM.getD y (0, 0, 0)).2.2 n0 s0 pc ls st w
theorem zmet_of {l : Launch} {n : Nat} (ih : zSay l B xv D dA H0 xs n) {k : Nat} {vs : List Value} {w wf : zH} {v : Option Value} (hk : k < 242) (hlen : (zsl vs).length ≤ (zM.getD k (0, 0, 0)).2.2) (h : zex xs n (k, 0, zloc (zM.getD k (0, 0, 0)).2.2 vs, [], w) = some (v, wf)) : zMet l B xv D dA H0 xs k vs w v wf := by
  refine zofW (cc := zCd.getD k ⟨#[]⟩) (maxL := (zM.getD k (0, 0, 0)).2.2) (ret := zQ.getD k none) (zpl k hk) rfl ?_
  intro p e s m args below meth c s₁ BB hml hv
  obtain ⟨rfl, hH, hK⟩ := hv
  have hts := atoms_spec (ws := zcw k :: zG) BB.pre
  have hown : s.vm.findClass (zN.getD k objectInit).cls = some m.cls := findClass_of_methodNamed BB.named
  obtain ⟨kc, np, mL, m1, m2, m3, m4, m5, m6, m7⟩ := zY_get hk
  have hzo : zO.getD (zOw.getD k 0) "" = (zN.getD k objectInit).cls := by rw [List.getD_eq_getElem?_getD, m5]; rfl
  have hC : zCx B xv D dA H0 xs p (headSpec (zcw k :: zG) (zrm k w wf)).room s m (vs.map (zv B xv)).toArray meth c k :=
    ⟨BB.exec, BB.bytes, hml, by rw [hzo]; exact hown, fun w hw => hts w (List.mem_cons_of_mem _ hw), BB.returns, BB.notSynchronized, fun hi => ((name_of_methodNamed BB.named BB.method).1).trans hi, rfl, rfl, hK⟩
  have hmono := zex_mono xs n _ _ h
  dsimp only at hmono
  have hW := ih k 0 _ [] w v wf h p e _ s m _ below meth c (MQ below (zQc B xv D dA H0 v wf) (vs.map (zv B xv)).toArray s (wf.length - w.length) (zsz wf - zsz w) (fun q => B ≤ q)) w.length (zsz w) hC (Nat.le_refl _) (Nat.le_refl _) (Nat.le_refl _) (Nat.le_refl _)
    (fun pc' H locs lsM hH hl hrt => zs_end hC hH hl hrt)
  have hL := zLR.entry (B := B) (n := (zM.getD k (0, 0, 0)).2.2) (vs := vs) hK.2.2.2.1 hlen
  have h9 := hW s.heap [] _ hH hL (fun q hq => by cases hq)
  rw [Nat.sub_self, Nat.sub_self] at h9
  rw [lg_entry_eq]
  exact h9
theorem zM_room {y k : Nat} {i : Instr} {pc : Nat} (hP : zP y pc = some i) (hi : i = .invokevirtual k ∨ (i = .invokespecial k ∧ k ≠ 998) ∨ (i = .invokestatic k ∧ k ≠ 999)) : k < 242 := by
  obtain ⟨i0, len, hd, hz⟩ := zok_dec (zP_ok hP)
  rcases hi with rfl | ⟨rfl, hk⟩ | ⟨rfl, hk⟩
  · simp only [zokD] at hz
    split at hz
    · simp only [Bool.and_eq_true, decide_eq_true_eq] at hz
      exact (zroom_get hz.1.1.2).2.2
    · cases hz
  · simp only [zokD] at hz
    split at hz
    · rw [if_neg hk] at hz
      simp only [Bool.and_eq_true, decide_eq_true_eq] at hz
      exact (zroom_get hz.2.1.1.1.2).2.2
    · cases hz
  · simp only [zokD] at hz
    split at hz
    · rw [if_neg hk] at hz
      simp only [Bool.and_eq_true, decide_eq_true_eq] at hz
      exact (zroom_get hz.2.2).2.2
    · cases hz
/-- THE SIMULATION -/
theorem zsim (l : Launch) : ∀ n : Nat, zSay l B xv D dA H0 xs n := by
  intro n
  induction n with
  | zero => intro y pc ls st w v wf h; cases h
  | succ n ih =>
    intro y pc ls st w v wf h p e R s m args below meth c Q n0 s0 hC hn0 hs0 hRc hRs hQ
    rw [zex] at h
    cases ha : zact xs (y, pc, ls, st, w) with
    | none => rw [ha] at h; cases h
    | some x =>
      rw [ha] at h
      unfold zact at ha
      dsimp only at ha
      cases hP : zP y pc with
      | none => rw [hP] at ha; cases ha
      | some i =>
        rw [hP] at ha
        dsimp only at ha
        have call : ∀ (k : Nat) (vs rest : List Value) (b : Bool), x = .inr (.inr ((k, 0, zloc (zM.getD k (0, 0, 0)).2.2 vs, [], w), y, pc + 3, ls, rest)) → zCl xs w k vs st rest b → k < 242 → ((b = true ∧ (i = .invokevirtual k ∨ i = .invokespecial k ∧ k ≠ 998)) ∨ (b = false ∧ i = .invokestatic k ∧ k ≠ 999)) → zW B xv D dA H0 p l e R s m args below meth c Q (zM.getD y (0, 0, 0)).2.2 n0 s0 pc ls st w := by
          intro k vs rest b e1 hcl hk hi
          subst e1
          dsimp only at h
          cases h1 : zex xs n (k, 0, zloc (zM.getD k (0, 0, 0)).2.2 vs, [], w) with
          | none => rw [h1] at h; cases h
          | some r1 =>
            obtain ⟨v1, w1⟩ := r1
            rw [h1] at h
            dsimp only at h
            have g1 := zex_mono xs _ _ _ h1
            have g2 := zex_mono xs _ _ _ h
            dsimp only at g1 g2
            have hM := zmet_of (l := l) ih hk hcl.2.1 h1
            exact zs_call (wf := wf) hC hP hi hcl hM hn0 hs0 g1.1 g1.2 ⟨by omega, by omega⟩ (ih y (pc + 3) ls _ w1 v wf h p e R s m args below meth c Q n0 s0 hC (by omega) (by omega) hRc hRs hQ)
        rcases zI_kind (xs := xs) (y := y) (pc := pc) (ls := ls) (st := st) (w := w) i with hg | hr | ⟨k, rfl⟩ | ⟨k, rfl, hk⟩ | ⟨k, rfl, hk⟩
        · obtain ⟨c', rfl, hy, h1, h2⟩ := hg _ ha
          obtain ⟨y', pc', ls', st', w'⟩ := c'
          dsimp only at hy h1 h2
          subst hy
          have g := zex_mono xs _ _ _ h
          dsimp only at g
          have hk := ih y' pc' ls' st' w' v wf h p e R s m args below meth c Q n0 s0 hC (by omega) (by omega) hRc hRs hQ
          exact (zstep hC hP hn0 hs0 ha ⟨by dsimp only; omega, by dsimp only; omega⟩ hk).2
        · obtain ⟨u, rfl, rfl, hrt⟩ := zI_ret hP hr ha
          cases h
          exact fun H locs lsM hH hL hl => hQ pc H locs lsM hH hl hrt
        · obtain ⟨vs, rest, e1, hcl⟩ := zinv_inv ha
          exact call k vs rest true e1 hcl (zM_room hP (Or.inl rfl)) (Or.inl ⟨rfl, Or.inl rfl⟩)
        · have ha2 := ha
          simp only [zI, if_neg hk] at ha2
          obtain ⟨vs, rest, e1, hcl⟩ := zinv_inv ha2
          exact call k vs rest true e1 hcl (zM_room hP (Or.inr (Or.inl ⟨rfl, hk⟩))) (Or.inl ⟨rfl, Or.inr ⟨rfl, hk⟩⟩)
        · have ha2 := ha
          simp only [zI, if_neg hk] at ha2
          obtain ⟨vs, rest, e1, hcl⟩ := zinvS_inv (xs := xs) ha2
          exact call k vs rest false e1 hcl (zM_room hP (Or.inr (Or.inr ⟨rfl, hk⟩))) (Or.inr ⟨rfl, rfl, hk⟩)
end ZSIM2
