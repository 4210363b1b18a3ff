/-! what kind of step an instruction takes; the heap grows only -/
def zgr (y : Nat) (w : zH) (a : zA) : Prop := ∀ x, a = some x → ∃ c' : zC, x = .inr (.inl c') ∧ c'.1 = y ∧ w.length ≤ c'.2.2.2.2.length ∧ zsz w ≤ zsz c'.2.2.2.2
section ZGR
variable {xs : Option (List Value)} {y pc : Nat} {ls st : List Value} {w : zH}
theorem zgr_none : zgr y w none := fun x h => by cases h
theorem zgr_go {pc' : Nat} {ls' st' : List Value} {w' : zH} (h1 : w.length ≤ w'.length) (h2 : zsz w ≤ zsz w') : zgr y w (zgo y pc' ls' st' w') := fun x h => by
  unfold zgo at h
  cases h
  exact ⟨_, rfl, rfl, h1, h2⟩
theorem zgr_same {pc' : Nat} {ls' st' : List Value} : zgr y w (zgo y pc' ls' st' w) := zgr_go (Nat.le_refl _) (Nat.le_refl _)
theorem zgr_jmp {o : Int} {ls' st' : List Value} : zgr y w (zjmp y pc o ls' st' w) := by
  unfold zjmp
  split
  · exact zgr_same
  · exact zgr_none
theorem zgr_i2 {f : Int32 → Int32 → Int32} : zgr y w (zi2 f y pc ls st w) := by
  unfold zi2
  split
  · exact zgr_same
  · exact zgr_none
theorem zgr_l2 {f : Int64 → Int64 → Int64} : zgr y w (zl2 f y pc ls st w) := by
  unfold zl2
  split
  · exact zgr_same
  · exact zgr_none
theorem zgr_i1 {f : Int32 → Value} : zgr y w (zi1 f y pc ls st w) := by
  unfold zi1
  split
  · exact zgr_same
  · exact zgr_none
theorem zgr_ld {ok : Value → Bool} {i d : Nat} : zgr y w (zld ok i d y pc ls st w) := by
  unfold zld
  repeat' split
  all_goals first | exact zgr_same | exact zgr_none
theorem zgr_st {ok : Value → Bool} {i d : Nat} : zgr y w (zst ok i d y pc ls st w) := by
  unfold zst
  repeat' split
  all_goals first | exact zgr_same | exact zgr_none
theorem zgr_stl {i d : Nat} : zgr y w (zstl i d y pc ls st w) := by
  unfold zstl
  repeat' split
  all_goals first | exact zgr_same | exact zgr_none
theorem zgr_ald {kd : Nat → Bool} {ok : Value → Bool} : zgr y w (zald xs kd ok y pc ls st w) := by
  unfold zald
  repeat' split
  all_goals first | exact zgr_same | exact zgr_none
theorem zgr_ast {kd : Nat → Value → Bool} {f : Value → Value} : zgr y w (zast kd f y pc ls st w) := by
  unfold zast
  split
  · split
    · split
      · rename_i hr
        split
        · exact zgr_go (by simp) (by rw [zsz_set hr (by simp)]; exact Nat.le_refl _)
        · exact zgr_none
      · exact zgr_none
    · exact zgr_none
  · exact zgr_none
theorem zgr_getf {n : Nat} : zgr y w (zgetf xs n y pc ls st w) := by
  unfold zgetf
  repeat' split
  all_goals first | exact zgr_same | exact zgr_none
theorem zgr_putf {n : Nat} : zgr y w (zputf n y pc ls st w) := by
  unfold zputf
  split
  · split
    · split
      · rename_i hr
        split
        · exact zgr_go (by simp) (by rw [zsz_set hr (by simp)]; exact Nat.le_refl _)
        · exact zgr_none
      · exact zgr_none
    · exact zgr_none
  · exact zgr_none
theorem zgr_nw {q : Nat × List Value} {d : Nat} {st' : List Value} : zgr y w (znw q d y pc ls st' w) := by
  unfold znw
  split
  · exact zgr_go (by simp) (by rw [zsz_push]; exact Nat.le_add_right _ _)
  · exact zgr_none
theorem zgr_nwa {k : Nat} {v : Value} {d : Nat} : zgr y w (znwa k v d y pc ls st w) := by
  unfold znwa
  split
  · split
    · exact zgr_nw
    · exact zgr_none
  · exact zgr_none
theorem zgr_acp : zgr y w (zacp y pc ls st w) := by
  unfold zacp
  split
  · split
    · split
      · rename_i hf hg
        split
        · exact zgr_go (by simp) (by rw [zsz_set hg (by simp [zcpy])]; exact Nat.le_refl _)
        · exact zgr_none
      · exact zgr_none
    · exact zgr_none
  · exact zgr_none
set_option maxHeartbeats 4000000 in
theorem zI_kind (i : Instr) : zgr y w (zI xs y pc ls st w i) ∨ (i = .ireturn ∨ i = .lreturn ∨ i = .areturn ∨ i = .return_) ∨ (∃ n, i = .invokevirtual n) ∨ (∃ n, i = .invokespecial n ∧ n ≠ 998) ∨ ∃ n, i = .invokestatic n ∧ n ≠ 999 := by
  cases i with
  | ireturn => exact Or.inr (Or.inl (Or.inl rfl))
  | lreturn => exact Or.inr (Or.inl (Or.inr (Or.inl rfl)))
  | areturn => exact Or.inr (Or.inl (Or.inr (Or.inr (Or.inl rfl))))
  | return_ => exact Or.inr (Or.inl (Or.inr (Or.inr (Or.inr rfl))))
  | invokevirtual n => exact Or.inr (Or.inr (Or.inl ⟨n, rfl⟩))
  | invokespecial n =>
    by_cases h : n = 998
    · left
      subst h
      simp only [zI]
      repeat' split
      all_goals first | exact zgr_same | exact zgr_none | (rename_i h; exact absurd trivial h)
    · exact Or.inr (Or.inr (Or.inr (Or.inl ⟨n, rfl, h⟩)))
  | invokestatic n =>
    by_cases h : n = 999
    · left
      subst h
      simp only [zI, if_pos]
      exact zgr_acp
    · exact Or.inr (Or.inr (Or.inr (Or.inr ⟨n, rfl, h⟩)))
  | _ =>
    left
    simp only [zI]
    first
      | exact zgr_none
      | exact zgr_same
      | exact zgr_i2
      | exact zgr_l2
      | exact zgr_i1
      | exact zgr_ld
      | exact zgr_st
      | exact zgr_stl
      | exact zgr_ald
      | exact zgr_ast
      | exact zgr_getf
      | exact zgr_putf
      | exact zgr_jmp
      | (repeat' split
         all_goals first | exact zgr_none | exact zgr_same | exact zgr_jmp | exact zgr_nw | exact zgr_nwa)
/-- how a method ends -/
def zRt (y pc : Nat) (v : Option Value) : Prop :=
  (v = none ∧ decode (zCd.getD y ⟨#[]⟩) pc = .ok (.return_, 1) ∧ zQ.getD y none = none) ∨
  (∃ (x : Int32) (ty : FieldType), v = some (.int x) ∧ decode (zCd.getD y ⟨#[]⟩) pc = .ok (.ireturn, 1) ∧ zQ.getD y none = some ty ∧ narrow ty (.int x) = .int x) ∨
  (∃ x : Int64, v = some (.long x) ∧ decode (zCd.getD y ⟨#[]⟩) pc = .ok (.lreturn, 1) ∧ zQ.getD y none = some .long) ∨
  ∃ (u : Value) (C : String), v = some u ∧ zref u = true ∧ decode (zCd.getD y ⟨#[]⟩) pc = .ok (.areturn, 1) ∧ zQ.getD y none = some (.object C)
theorem zI_ret {i : Instr} (hP : zP y pc = some i) (hi : i = .ireturn ∨ i = .lreturn ∨ i = .areturn ∨ i = .return_) {x : zR ⊕ (zC ⊕ (zC × (Nat × Nat × List Value × List Value)))} (h : zI xs y pc ls st w i = some x) : ∃ v : Option Value, x = .inl (v, w) ∧ st = v.toList ∧ zRt y pc v := by
  have hok := zP_ok hP
  rcases hi with rfl | rfl | rfl | rfl
  · simp only [zI] at h
    split at h
    · split at h
      · rename_i x ty hty
        split at h
        · rename_i hn
          cases h
          exact ⟨_, rfl, rfl, Or.inr (Or.inl ⟨_, ty, rfl, zok_plain hok (fun _ _ => rfl), hty, hn⟩)⟩
        · cases h
      · cases h
    · cases h
  · simp only [zI] at h
    split at h
    · split at h
      · rename_i x hq
        cases h
        exact ⟨_, rfl, rfl, Or.inr (Or.inr (Or.inl ⟨x, rfl, zok_plain hok (fun _ _ => rfl), hq⟩))⟩
      · cases h
    · cases h
  · simp only [zI] at h
    split at h
    · split at h
      · rename_i u C hC
        split at h
        · rename_i hr
          cases h
          exact ⟨_, rfl, rfl, Or.inr (Or.inr (Or.inr ⟨_, _, rfl, hr, zok_plain hok (fun _ _ => rfl), hC⟩))⟩
        · cases h
      · cases h
    · cases h
  · simp only [zI] at h
    split at h
    · split at h
      · rename_i hq
        cases h
        exact ⟨_, rfl, rfl, Or.inl ⟨rfl, zok_plain hok (fun _ _ => rfl), hq⟩⟩
      · cases h
    · cases h
/-- a call: the callee n, its values vs, what is left; b: it has a receiver -/
def zCl (xs : Option (List Value)) (w : zH) (n : Nat) (vs st rest : List Value) (b : Bool) : Prop :=
  zcat rest ≤ 8 ∧ (zsl vs).length ≤ (zM.getD n (0, 0, 0)).2.2 ∧ ∃ As : List Value, As.length = (zM.getD n (0, 0, 0)).2.1 ∧
    ((b = true ∧ ∃ v, vs = v :: As.reverse ∧ st = As ++ v :: rest ∧ zrc xs n w v = true) ∨ (b = false ∧ vs = As.reverse ∧ st = As ++ rest ∧ (zM.getD n (0, 0, 0)).1 = 99))
theorem zcall_inv {n : Nat} {vs rest : List Value} {x : zR ⊕ (zC ⊕ (zC × (Nat × Nat × List Value × List Value)))} (h : zcall n vs rest y pc ls w = some x) : x = .inr (.inr ((n, 0, zloc (zM.getD n (0, 0, 0)).2.2 vs, [], w), y, pc + 3, ls, rest)) ∧ zcat rest ≤ 8 ∧ (zsl vs).length ≤ (zM.getD n (0, 0, 0)).2.2 := by
  unfold zcall at h
  split at h
  · rename_i hc
    cases h
    exact ⟨rfl, hc.1, hc.2⟩
  · cases h
theorem zinv_inv {n : Nat} {x : zR ⊕ (zC ⊕ (zC × (Nat × Nat × List Value × List Value)))} (h : zinv xs n y pc ls st w = some x) : ∃ vs rest : List Value, x = .inr (.inr ((n, 0, zloc (zM.getD n (0, 0, 0)).2.2 vs, [], w), y, pc + 3, ls, rest)) ∧ zCl xs w n vs st rest true := by
  unfold zinv at h
  split at h
  · rename_i v rest hd
    split at h
    · rename_i hr
      obtain ⟨h1, h2, h3⟩ := zcall_inv h
      refine ⟨_, rest, h1, h2, h3, st.take (zM.getD n (0, 0, 0)).2.1, ?_, Or.inl ⟨rfl, v, rfl, ?_, hr⟩⟩
      · rw [List.length_take]
        have : (st.drop (zM.getD n (0, 0, 0)).2.1).length = (v :: rest).length := by rw [hd]
        rw [List.length_drop, List.length_cons] at this
        omega
      · rw [← hd, List.take_append_drop]
    · cases h
  · cases h
theorem zinvS_inv {n : Nat} {x : zR ⊕ (zC ⊕ (zC × (Nat × Nat × List Value × List Value)))} (h : zinvS n y pc ls st w = some x) : ∃ vs rest : List Value, x = .inr (.inr ((n, 0, zloc (zM.getD n (0, 0, 0)).2.2 vs, [], w), y, pc + 3, ls, rest)) ∧ zCl xs w n vs st rest false := by
  unfold zinvS at h
  split at h
  · rename_i hc
    obtain ⟨h1, h2, h3⟩ := zcall_inv h
    refine ⟨_, _, h1, h2, h3, st.take (zM.getD n (0, 0, 0)).2.1, ?_, Or.inr ⟨rfl, rfl, ?_, hc.1⟩⟩
    · rw [List.length_take]; omega
    · rw [List.take_append_drop]
  · cases h
/-- the heap grows only -/
theorem zex_mono (xs : Option (List Value)) : ∀ (n : Nat) (c : zC) (r : zR), zex xs n c = some r → c.2.2.2.2.length ≤ r.2.length ∧ zsz c.2.2.2.2 ≤ zsz r.2 := by
  intro n
  induction n with
  | zero => intro c r h; cases h
  | succ n ih =>
    intro c r h
    obtain ⟨y, pc, ls, st, w⟩ := c
    rw [zex] at h
    cases ha : zact xs (y, pc, ls, st, w) with
    | none => rw [ha] at h; cases h
    | some x =>
      rw [ha] at h
      unfold zact at ha
      dsimp only at ha
      cases hP : zP y pc with
      | none => rw [hP] at ha; cases ha
      | some i =>
        rw [hP] at ha
        dsimp only at ha
        have call : ∀ (k : Nat) (vs rest : List Value), x = .inr (.inr ((k, 0, zloc (zM.getD k (0, 0, 0)).2.2 vs, [], w), y, pc + 3, ls, rest)) → w.length ≤ r.2.length ∧ zsz w ≤ zsz r.2 := by
          intro k vs rest e
          subst e
          dsimp only at h
          cases h1 : zex xs n (k, 0, zloc (zM.getD k (0, 0, 0)).2.2 vs, [], w) with
          | none => rw [h1] at h; cases h
          | some r1 =>
            rw [h1] at h
            have g1 := ih _ _ h1
            have g2 := ih _ _ h
            dsimp only at g1 g2 ⊢
            omega
        rcases zI_kind (xs := xs) (y := y) (pc := pc) (ls := ls) (st := st) (w := w) i with hg | hr | ⟨k, rfl⟩ | ⟨k, rfl, hk⟩ | ⟨k, rfl, hk⟩
        · obtain ⟨c', rfl, -, h1, h2⟩ := hg _ ha
          have := ih _ _ h
          dsimp only at this ⊢
          omega
        · obtain ⟨v, rfl, -, -⟩ := zI_ret hP hr ha
          cases h
          exact ⟨Nat.le_refl _, Nat.le_refl _⟩
        · obtain ⟨vs, rest, e, -⟩ := zinv_inv ha
          exact call k vs rest e
        · simp only [zI, if_neg hk] at ha
          obtain ⟨vs, rest, e, -⟩ := zinv_inv ha
          exact call k vs rest e
        · simp only [zI, if_neg hk] at ha
          obtain ⟨vs, rest, e, -⟩ := zinvS_inv (xs := xs) ha
          exact call k vs rest e
end ZGR
