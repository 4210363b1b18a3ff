/-! a run that doesn't look at the script is the same with every script -/
theorem zr_more {xs : Option (List Value)} {w : zH} {a : Nat} {c : Nat × List Value} (h : zr none w a = some c) : zr xs w a = some c := by
  unfold zr at h ⊢
  split at h
  · rename_i ha
    rw [if_pos ha]; exact h
  · rename_i ha
    rw [if_neg ha]
    unfold zE at h ⊢
    split at h
    · rename_i h1
      rw [if_pos h1]; exact h
    · rename_i h1
      rw [if_neg h1]
      split at h
      · cases h
      · rename_i h2
        rw [if_neg h2]; exact h
theorem zald_more {xs : Option (List Value)} {kd : Nat → Bool} {ok : Value → Bool} {y pc : Nat} {ls st : List Value} {w : zH} {x : zR ⊕ (zC ⊕ (zC × (Nat × Nat × List Value × List Value)))} (h : zald none kd ok y pc ls st w = some x) : zald xs kd ok y pc ls st w = some x := by
  unfold zald at h ⊢
  split at h
  · split at h
    · rename_i k vs hr
      rw [zr_more hr]
      exact h
    · cases h
  · cases h
theorem zgetf_more {xs : Option (List Value)} {n : Nat} {y pc : Nat} {ls st : List Value} {w : zH} {x : zR ⊕ (zC ⊕ (zC × (Nat × Nat × List Value × List Value)))} (h : zgetf none n y pc ls st w = some x) : zgetf xs n y pc ls st w = some x := by
  unfold zgetf at h ⊢
  split at h
  · split at h
    · rename_i k vs hr
      rw [zr_more hr]
      exact h
    · cases h
  · cases h
theorem zrc_more {xs : Option (List Value)} {n : Nat} {w : zH} {v : Value} (h : zrc none n w v = true) : zrc xs n w v = true := by
  unfold zrc at h ⊢
  split at h
  · split at h
    · rename_i k vs hr
      rw [zr_more hr]
      exact h
    · cases h
  · cases h
theorem zinv_more {xs : Option (List Value)} {n : Nat} {y pc : Nat} {ls st : List Value} {w : zH} {x : zR ⊕ (zC ⊕ (zC × (Nat × Nat × List Value × List Value)))} (h : zinv none n y pc ls st w = some x) : zinv xs n y pc ls st w = some x := by
  unfold zinv at h ⊢
  split at h
  · rename_i v rest hd
    split at h
    · rename_i hr
      rw [zrc_more hr]
      exact h
    · cases h
  · cases h
set_option maxHeartbeats 4000000 in
theorem zI_more {xs : Option (List Value)} {y pc : Nat} {ls st : List Value} {w : zH} {x : zR ⊕ (zC ⊕ (zC × (Nat × Nat × List Value × List Value)))} (i : Instr) (h : zI none y pc ls st w i = some x) : zI xs y pc ls st w i = some x := by
  cases i with
  | iaload => exact zald_more h
  | caload => exact zald_more h
  | baload => exact zald_more h
  | aaload => exact zald_more h
  | getfield n => exact zgetf_more h
  | invokevirtual n => exact zinv_more h
  | invokespecial n =>
    simp only [zI] at h ⊢
    split at h
    · rename_i e
      rw [if_pos e]
      exact h
    · rename_i e
      rw [if_neg e]
      exact zinv_more h
  | arraylength =>
    simp only [zI] at h ⊢
    split at h
    · split at h
      · rename_i k vs hr
        rw [zr_more hr]
        exact h
      · cases h
    · cases h
  | _ => exact h
theorem zex_more {xs : Option (List Value)} : ∀ (n : Nat) (c : zC) (r : zR), zex none n c = some r → zex xs n c = some r := by
  intro n
  induction n with
  | zero => intro c r h; cases h
  | succ n ih =>
    intro c r h
    rw [zex] at h ⊢
    cases ha : zact none c with
    | none => rw [ha] at h; cases h
    | some x =>
      have ha' : zact xs c = some x := by
        unfold zact at ha ⊢
        cases hP : zP c.1 c.2.1 with
        | none => rw [hP] at ha; cases ha
        | some i => rw [hP] at ha; exact zI_more i ha
      rw [ha] at h
      rw [ha']
      rcases x with r' | c' | ⟨c1, y, pc, ls, st⟩
      · exact h
      · exact ih _ _ h
      · dsimp only at h ⊢
        cases h1 : zex none n c1 with
        | none => rw [h1] at h; cases h
        | some r1 =>
          rw [h1] at h
          rw [ih _ _ h1]
          exact ih _ _ h
theorem zrun_more {xs : Option (List Value)} {c : zC} {r : zR} (h : zrun none c = some r) : zrun xs c = some r := by
  obtain ⟨n, hn⟩ := zrun_some h
  exact zrun_of (zex_more n _ _ hn)
/-! symbolic runs: what an instruction leads to, as an equation -/
/-- what a step leads to -/
noncomputable def zres (a : zA) : Option zR := match a with
  | none => none
  | some (.inl r) => some r
  | some (.inr (.inl c')) => zrun none c'
  | some (.inr (.inr (c1, y, pc, ls, st))) => match zrun none c1 with
    | none => none
    | some r => zrun none (y, pc, ls, r.1.toList ++ st, r.2)
theorem zE_ {y pc : Nat} {i : Instr} (hi : zP y pc = some i) (ls st : List Value) (w : zH) : zrun none (y, pc, ls, st, w) = zres (zI none y pc ls st w i) := by
  rw [zrun_eq, zact, hi]
  rfl
