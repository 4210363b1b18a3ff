/-! THE FIRST WORLD -/
def zW1 : zH := match zex none 1000 (64, 0, [.ref 0, zJ], [], [(11, znew 11)]) with
  | some r => r.2
  | none => []
def zW0 : zH := match zex none 1500 (148, 0, zloc (zM.getD 148 (0, 0, 0)).2.2 [.ref 35], [], zW1 ++ [(12, znew 12)]) with
  | some r => r.2
  | none => []
set_option maxRecDepth 100000 in
theorem zW1_run : zex none 1000 (64, 0, [.ref 0, zJ], [], [(11, znew 11)]) = some (none, zW1) := by decide +kernel
set_option maxRecDepth 100000 in
theorem zW0_run : zex none 1500 (148, 0, zloc (zM.getD 148 (0, 0, 0)).2.2 [.ref 35], [], zW1 ++ [(12, znew 12)]) = some (none, zW0) := by decide +kernel
def zslotB (a j : Nat) (v : Value) : Bool := match zptr a j with
  | some r => decide (v = .ref r)
  | none => if 200 ≤ (zsh a).1 then zref v else zint v
def zshB (w : zH) (a : Nat) : Bool := match w[a]? with
  | some (k, vs) => decide (k = (zsh a).1) && decide (vs.length = (zsh a).2.1) && (vs.zipIdx.all fun q => zslotB a q.2 q.1)
  | none => false
theorem Sh_of {w : zH} (h : ((List.range 65).all (zshB w)) = true) : Sh w := by
  intro a ha
  have h1 := List.all_eq_true.mp h a (List.mem_range.mpr ha)
  unfold zshB at h1
  split at h1
  · rename_i k vs hw
    simp only [Bool.and_eq_true, decide_eq_true_eq] at h1
    obtain ⟨⟨rfl, h2⟩, h3⟩ := h1
    refine ⟨vs, hw, h2, fun j v hj => ?_⟩
    have h4 := List.all_eq_true.mp h3 (v, j) (List.mem_zipIdx_iff_getElem?.mpr hj)
    unfold zslotB at h4
    unfold zslot
    dsimp only at h4
    split at h4
    · rename_i r hr
      rw [hr]
      exact of_decide_eq_true h4
    · rename_i hr
      rw [hr]
      split at h4
      · rename_i hk; dsimp only; rw [if_pos hk]; exact h4
      · rename_i hk; dsimp only; rw [if_neg hk]; exact h4
  · cases h1
set_option maxRecDepth 100000 in
theorem zW0_len : zW0.length = 65 ∧ zsz zW0 ≤ 5000 := by decide +kernel
set_option maxRecDepth 100000 in
theorem zW0_inv : Inv zW0 := by
  refine ⟨Sh_of (by decide +kernel), by unfold IS; decide +kernel, by unfold IH; decide +kernel, ⟨0, by decide, by decide +kernel, by decide +kernel, fun i hi => absurd hi (Nat.not_lt_zero i)⟩, ⟨0, by decide, by decide +kernel, by decide +kernel, fun i hi => absurd hi (Nat.not_lt_zero i)⟩, ⟨0, by decide, by decide +kernel, by decide +kernel, fun i hi => absurd hi (Nat.not_lt_zero i)⟩, by unfold IF; decide +kernel, ⟨0, by decide, by decide +kernel, by decide +kernel, fun i hi => absurd hi (Nat.not_lt_zero i)⟩, by unfold IO; decide +kernel, ⟨0, by decide, by decide +kernel, by decide +kernel, fun i hi => absurd hi (Nat.not_lt_zero i)⟩, by unfold IG; decide +kernel, by unfold ID; decide +kernel, ⟨0, by decide, by decide +kernel, by decide +kernel, fun i hi => absurd hi (Nat.not_lt_zero i)⟩, by unfold IE; decide +kernel, ⟨0, by decide, by decide +kernel, by decide +kernel, fun _ => 0, fun _ => 0, fun _ => 0, fun i j hi => absurd hi (Nat.not_lt_zero i), fun i j hi => absurd hi (Nat.not_lt_zero i), fun i hi => absurd hi (Nat.not_lt_zero i)⟩, ⟨0, by decide, by decide +kernel, by decide +kernel, fun _ => 0, fun i j hi => absurd hi (Nat.not_lt_zero i), fun i hi => absurd hi (Nat.not_lt_zero i)⟩⟩
/-- what is shown of a call: both answer alike, the invariant stays, few cells are new -/
def zOK (w : zH) (cx cm : zH → zC) : Prop := ∃ (r : Int32) (w1 w2 : zH), zrun none (cx w) = some (some (.int r), w1) ∧ zrun none (cm w1) = some (some (.int r), w2) ∧ Inv w2 ∧ w2.length ≤ w.length + 30 ∧ zsz w2 ≤ zsz w + 300
