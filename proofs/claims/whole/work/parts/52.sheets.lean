/-! sheets (gen_52.py writes this) -/
theorem zk_1 (a : Nat) : nI a + (1 : Int32) = nI (a + 1) := nI_add a 1
theorem zk_2 (a : Nat) : nI a + (2 : Int32) = nI (a + 2) := nI_add a 2
theorem zk_3 (a : Nat) : nI a + (3 : Int32) = nI (a + 3) := nI_add a 3
theorem zk_4 (a : Nat) : nI a + (4 : Int32) = nI (a + 4) := nI_add a 4
theorem zk_5 (a : Nat) : nI a + (5 : Int32) = nI (a + 5) := nI_add a 5
theorem zm_2 (a : Nat) : (2 : Int32) * nI a = nI (2 * a) := pk_mul 2 a
theorem zm_6 (a : Nat) : (6 : Int32) * nI a = nI (6 * a) := pk_mul 6 a
theorem zm_8 (a : Nat) : (8 : Int32) * nI a = nI (8 * a) := pk_mul 8 a
theorem zm_10 (a : Nat) : (10 : Int32) * nI a = nI (10 * a) := pk_mul 10 a
theorem zm_100 (a : Nat) : (100 : Int32) * nI a = nI (100 * a) := pk_mul 100 a
/-- m writes, from i on -/
def zwl (a off : Nat) (f : Nat → Int32) : Nat → Nat → zH → zH
  | 0, _, w => w
  | m + 1, i, w => zwl a off f m (i + 1) (zas w a (nI (off + i)) (.int (f i)))
theorem zwl_ne {a off : Nat} {f : Nat → Int32} {b : Nat} (h : a ≠ b) : ∀ (m i : Nat) (w : zH), (zwl a off f m i w)[b]? = w[b]? := by
  intro m
  induction m with
  | zero => intro i w; rfl
  | succ m ih => intro i w; rw [zwl, ih]; exact zas_get_ne h
theorem zwl_len {a off : Nat} {f : Nat → Int32} : ∀ (m i : Nat) (w : zH), (zwl a off f m i w).length = w.length := by
  intro m
  induction m with
  | zero => intro i w; rfl
  | succ m ih => intro i w; rw [zwl, ih]; exact zas_len ..
theorem zsz_wl {a off : Nat} {f : Nat → Int32} : ∀ (m i : Nat) (w : zH), zsz (zwl a off f m i w) = zsz w := by
  intro m
  induction m with
  | zero => intro i w; rfl
  | succ m ih => intro i w; rw [zwl, ih]; exact zsz_as ..
theorem Sh.wl {a off : Nat} {f : Nat → Int32} (hp : a < 65 → (zsh a).2.2 = [] ∧ (zsh a).1 < 200) : ∀ (m i : Nat) (w : zH), Sh w → Sh (zwl a off f m i w) := by
  intro m
  induction m with
  | zero => intro i w h; exact h
  | succ m ih => intro i w h; exact ih _ _ (h.as hp)
theorem zln_wl {a off : Nat} {f : Nat → Int32} {b n : Nat} : ∀ (m i : Nat) (w : zH), zln w b n → zln (zwl a off f m i w) b n := by
  intro m
  induction m with
  | zero => intro i w h; exact h
  | succ m ih => intro i w h; exact ih _ _ (zln_as h)
theorem ga_wl {a off : Nat} {f : Nat → Int32} {k : Nat} : ∀ (m i : Nat) (w : zH), (∀ j, j < m → zln w a (off + i + j)) → ga (zwl a off f m i w) a k = if off + i ≤ k ∧ k < off + i + m then f (k - off) else ga w a k := by
  intro m
  induction m with
  | zero => intro i w h; rw [if_neg (by omega)]; rfl
  | succ m ih =>
    intro i w h
    rw [zwl, ih (i + 1) _ (fun j hj => zln_as (by have := h (j + 1) (by omega); rw [show off + i + (j + 1) = off + (i + 1) + j by omega] at this; exact this)), ga_asn (by have := h 0 (by omega); exact this)]
    by_cases e : off + i = k
    · subst e
      rw [if_neg (by omega), if_pos rfl, if_pos (by omega), show off + i - off = i by omega]
    · rw [if_neg e]
      by_cases q : off + (i + 1) ≤ k ∧ k < off + (i + 1) + m
      · rw [if_pos q, if_pos (by omega)]
      · rw [if_neg q, if_neg (by omega)]
theorem zf_wl {a off : Nat} {f : Nat → Int32} {b n m i : Nat} {w : zH} (h : a ≠ b) : zf (zwl a off f m i w) b n = zf w b n := zf_eq (zwl_ne h _ _ _) n
theorem gi_wl {a off : Nat} {f : Nat → Int32} {b n m i : Nat} {w : zH} (h : a ≠ b) : gi (zwl a off f m i w) b n = gi w b n := gi_eq (zwl_ne h _ _ _) n
theorem ga_wl1 {a off : Nat} {f : Nat → Int32} {b n m i : Nat} {w : zH} (h : a ≠ b) : ga (zwl a off f m i w) b n = ga w b n := ga_eq (zwl_ne h _ _ _) n
theorem gr_wl {a off : Nat} {f : Nat → Int32} {b n m i : Nat} {w : zH} (h : a ≠ b) : gr (zwl a off f m i w) b n = gr w b n := gr_eq (zwl_ne h _ _ _) n
theorem zis_wl {a off : Nat} {f : Nat → Int32} {b k : Nat} : ∀ (m i : Nat) (w : zH), zis (zwl a off f m i w) b k = zis w b k := by
  intro m
  induction m with
  | zero => intro i w; rfl
  | succ m ih =>
    intro i w
    rw [zwl, ih]
    by_cases e : a = b
    · subst e
      unfold zis zr
      by_cases hx : a < zX
      · rw [if_pos hx, if_pos hx]
        unfold zas
        cases hw : w[a]? with
        | none => simp [hw]
        | some q =>
          have := (List.getElem?_eq_some_iff.mp hw).1
          simp only [List.getElem?_set, if_true, this, Option.some.injEq, Prod.mk.injEq]
          exact propext ⟨fun ⟨vs, h1, h2⟩ => ⟨q.2, by rw [← h1]⟩, fun ⟨vs, h1⟩ => ⟨_, by rw [h1], rfl⟩⟩
      · rw [if_neg hx, if_neg hx]
    · exact zis_as1 e
theorem zin_wl {a off : Nat} {f : Nat → Int32} {b k : Nat} {j : Int32} : ∀ (m i : Nat) (w : zH), zin? (zwl a off f m i w) b k j = zin? w b k j := by
  intro m
  induction m with
  | zero => intro i w; rfl
  | succ m ih => intro i w; rw [zwl, ih, zin_as]
theorem zSam_wl {w w1 : zH} {a off : Nat} {f : Nat → Int32} {m i : Nat} {ints : List (Nat × Nat)} {arrs : List Nat} (h : zSam w w1 ints arrs) (ha : a < 65) (h1 : (ints.all fun q => decide (a ≠ q.1)) = true) (h2 : (arrs.all fun b => decide (a ≠ b)) = true) : zSam w (zwl a off f m i w1) ints arrs := by
  refine ⟨fun q hq => ?_, fun b hb => ?_, fun b hb hl => ?_, by rw [zwl_len]; exact h.2.2.2⟩
  · rw [← h.1 q hq]
    exact gi_wl (of_decide_eq_true (List.all_eq_true.mp h1 q hq))
  · rw [← h.2.1 b hb]
    exact zwl_ne (of_decide_eq_true (List.all_eq_true.mp h2 b hb)) _ _ _
  · rw [← h.2.2.1 b hb hl]
    exact zwl_ne (by omega) _ _ _
/-- cells of sheets: 19 .. 34 -/
theorem zSam_pfS {w w1 : zH} {s n : Nat} {v : Value} {ints : List (Nat × Nat)} {arrs : List Nat} (h : zSam w w1 ints arrs) (hs : s < 8) (h1 : (ints.all fun q => decide (q.1 < 19 ∨ 34 < q.1)) = true) (h2 : (arrs.all fun b => decide (b < 19 ∨ 34 < b)) = true) : zSam w (zpf w1 (19 + 2 * s) n v) ints arrs := by
  refine ⟨fun q hq => ?_, fun b hb => ?_, fun b hb hl => ?_, by rw [zpf_len]; exact h.2.2.2⟩
  · rw [← h.1 q hq]
    have := of_decide_eq_true (List.all_eq_true.mp h1 q hq)
    exact gi_pf1 (by omega)
  · rw [← h.2.1 b hb]
    have := of_decide_eq_true (List.all_eq_true.mp h2 b hb)
    exact zpf_get_ne (by omega)
  · rw [← h.2.2.1 b hb hl]
    exact zpf_get_ne (by omega)
theorem zSam_asS {w w1 : zH} {s : Nat} {j : Int32} {v : Value} {ints : List (Nat × Nat)} {arrs : List Nat} (h : zSam w w1 ints arrs) (hs : s < 8) (h1 : (ints.all fun q => decide (q.1 < 19 ∨ 34 < q.1)) = true) (h2 : (arrs.all fun b => decide (b < 19 ∨ 34 < b)) = true) : zSam w (zas w1 (20 + 2 * s) j v) ints arrs := by
  refine ⟨fun q hq => ?_, fun b hb => ?_, fun b hb hl => ?_, by rw [zas_len]; exact h.2.2.2⟩
  · rw [← h.1 q hq]
    have := of_decide_eq_true (List.all_eq_true.mp h1 q hq)
    exact gi_as1 (by omega)
  · rw [← h.2.1 b hb]
    have := of_decide_eq_true (List.all_eq_true.mp h2 b hb)
    exact zas_get_ne (by omega)
  · rw [← h.2.2.1 b hb hl]
    exact zas_get_ne (by omega)
theorem zSam_wlS {w w1 : zH} {s off : Nat} {f : Nat → Int32} {m i : Nat} {ints : List (Nat × Nat)} {arrs : List Nat} (h : zSam w w1 ints arrs) (hs : s < 8) (h1 : (ints.all fun q => decide (q.1 < 19 ∨ 34 < q.1)) = true) (h2 : (arrs.all fun b => decide (b < 19 ∨ 34 < b)) = true) : zSam w (zwl (20 + 2 * s) off f m i w1) ints arrs := by
  refine ⟨fun q hq => ?_, fun b hb => ?_, fun b hb hl => ?_, by rw [zwl_len]; exact h.2.2.2⟩
  · rw [← h.1 q hq]
    have := of_decide_eq_true (List.all_eq_true.mp h1 q hq)
    exact gi_wl (by omega)
  · rw [← h.2.1 b hb]
    have := of_decide_eq_true (List.all_eq_true.mp h2 b hb)
    exact zwl_ne (by omega) _ _ _
  · rw [← h.2.2.1 b hb hl]
    exact zwl_ne (by omega) _ _ _
theorem S_ptr {w : zH} (h : Sh w) {s : Nat} (hs : s < 8) : gr w 1 s = .ref (19 + 2 * s) := by
  obtain ⟨vs, h1, h2, h3⟩ := h 1 (by decide)
  have hl : s < vs.length := by rw [h2]; exact Nat.lt_of_lt_of_le hs (by decide +kernel)
  have hz := h3 s _ (List.getElem?_eq_getElem hl)
  have hp : zptr 1 s = some (19 + 2 * s) := (by decide +kernel : ∀ s, s < 8 → zptr 1 s = some (19 + 2 * s)) s hs
  unfold zslot at hz
  rw [hp] at hz
  unfold gr
  rw [h1]
  dsimp only
  rw [List.getD_eq_getElem?_getD, List.getElem?_eq_getElem hl, hz]
  rfl
theorem S_is {w : zH} (h : Sh w) {s : Nat} (hs : s < 8) : zis w (19 + 2 * s) 8 := h.is (by omega) ((by decide +kernel : ∀ s, s < 8 → (zsh (19 + 2 * s)).1 = 8) s hs)
theorem S_800 {w : zH} (h : Sh w) {s : Nat} (hs : s < 8) : zf w (19 + 2 * s) 800 = some (.ref (20 + 2 * s)) := h.ptr (by omega) ((by decide +kernel : ∀ s, s < 8 → (zsh (19 + 2 * s)).1 = 800 / 100) s hs) ((by decide +kernel : ∀ s, s < 8 → 800 % 100 < (zsh (19 + 2 * s)).2.1) s hs) ((by decide +kernel : ∀ s, s < 8 → zptr (19 + 2 * s) (800 % 100) = some (20 + 2 * s)) s hs)
theorem S_801 {w : zH} (h : Sh w) {s : Nat} (hs : s < 8) : zf w (19 + 2 * s) 801 = some (.int (gi w (19 + 2 * s) 801)) := h.int (by omega) ((by decide +kernel : ∀ s, s < 8 → (zsh (19 + 2 * s)).1 = 801 / 100) s hs) ((by decide +kernel : ∀ s, s < 8 → (zsh (19 + 2 * s)).1 < 100) s hs) ((by decide +kernel : ∀ s, s < 8 → 801 % 100 < (zsh (19 + 2 * s)).2.1) s hs) ((by decide +kernel : ∀ s, s < 8 → zptr (19 + 2 * s) (801 % 100) = none) s hs)
theorem Sh.p801 {w : zH} (h : Sh w) {s : Nat} (hs : s < 8) {x : Int32} : Sh (zpf w (19 + 2 * s) 801 (.int x)) := h.pf (fun _ => (by decide +kernel : ∀ s, s < 8 → zptr (19 + 2 * s) (801 % 100) = none ∧ (zsh (19 + 2 * s)).1 < 200) s hs)
theorem S_802 {w : zH} (h : Sh w) {s : Nat} (hs : s < 8) : zf w (19 + 2 * s) 802 = some (.int (gi w (19 + 2 * s) 802)) := h.int (by omega) ((by decide +kernel : ∀ s, s < 8 → (zsh (19 + 2 * s)).1 = 802 / 100) s hs) ((by decide +kernel : ∀ s, s < 8 → (zsh (19 + 2 * s)).1 < 100) s hs) ((by decide +kernel : ∀ s, s < 8 → 802 % 100 < (zsh (19 + 2 * s)).2.1) s hs) ((by decide +kernel : ∀ s, s < 8 → zptr (19 + 2 * s) (802 % 100) = none) s hs)
theorem Sh.p802 {w : zH} (h : Sh w) {s : Nat} (hs : s < 8) {x : Int32} : Sh (zpf w (19 + 2 * s) 802 (.int x)) := h.pf (fun _ => (by decide +kernel : ∀ s, s < 8 → zptr (19 + 2 * s) (802 % 100) = none ∧ (zsh (19 + 2 * s)).1 < 200) s hs)
theorem S_803 {w : zH} (h : Sh w) {s : Nat} (hs : s < 8) : zf w (19 + 2 * s) 803 = some (.int (gi w (19 + 2 * s) 803)) := h.int (by omega) ((by decide +kernel : ∀ s, s < 8 → (zsh (19 + 2 * s)).1 = 803 / 100) s hs) ((by decide +kernel : ∀ s, s < 8 → (zsh (19 + 2 * s)).1 < 100) s hs) ((by decide +kernel : ∀ s, s < 8 → 803 % 100 < (zsh (19 + 2 * s)).2.1) s hs) ((by decide +kernel : ∀ s, s < 8 → zptr (19 + 2 * s) (803 % 100) = none) s hs)
theorem Sh.p803 {w : zH} (h : Sh w) {s : Nat} (hs : s < 8) {x : Int32} : Sh (zpf w (19 + 2 * s) 803 (.int x)) := h.pf (fun _ => (by decide +kernel : ∀ s, s < 8 → zptr (19 + 2 * s) (803 % 100) = none ∧ (zsh (19 + 2 * s)).1 < 200) s hs)
theorem S_i {w : zH} (h : Sh w) {s n : Nat} (hs : s < 8) (hn : n = 801 ∨ n = 802 ∨ n = 803) : (zf w (19 + 2 * s) n).isSome = true := by
  rcases hn with rfl | rfl | rfl
  · rw [S_801 h hs]; rfl
  · rw [S_802 h hs]; rfl
  · rw [S_803 h hs]; rfl
theorem S_a (s : Nat) (hs : s < 8) : (zsh (20 + 2 * s)).1 = 100 ∧ (zsh (20 + 2 * s)).2.2 = [] ∧ (zsh (20 + 2 * s)).2.1 = 100 ∧ (zsh (20 + 2 * s)).1 < 200 := (by decide +kernel : ∀ s, s < 8 → (zsh (20 + 2 * s)).1 = 100 ∧ (zsh (20 + 2 * s)).2.2 = [] ∧ (zsh (20 + 2 * s)).2.1 = 100 ∧ (zsh (20 + 2 * s)).1 < 200) s hs
theorem S_A {w : zH} (h : Sh w) {s : Nat} (hs : s < 8) {i : Nat} (hi : i < 100) : zai w (20 + 2 * s) 100 (nI i) = some (ga w (20 + 2 * s) i) := zShA h (by omega) (S_a s hs).1 (by decide) (S_a s hs).2.1 (by rw [(S_a s hs).2.2.1]; exact hi) (by rw [(S_a s hs).2.2.1]; decide)
theorem S_N {w : zH} (h : Sh w) {s : Nat} (hs : s < 8) {i : Nat} (hi : i < 100) : zin? w (20 + 2 * s) 100 (nI i) = True := zShN h (by omega) (S_a s hs).1 (by rw [(S_a s hs).2.2.1]; exact hi) (by rw [(S_a s hs).2.2.1]; decide)
theorem S_l {w : zH} (h : Sh w) {s : Nat} (hs : s < 8) : zal w (20 + 2 * s) = some 100 := by
  have := h.al (a := 20 + 2 * s) (by omega) (by rw [(S_a s hs).1]; decide)
  rw [(S_a s hs).2.2.1] at this
  exact this
theorem S_L {w : zH} (h : Sh w) {s : Nat} (hs : s < 8) {i : Nat} (hi : i < 100) : zln w (20 + 2 * s) i := h.ln (by omega) (by rw [(S_a s hs).2.2.1]; exact hi) (by omega)
theorem Sh.aS {w : zH} (h : Sh w) {s : Nat} (hs : s < 8) {j x : Int32} : Sh (zas w (20 + 2 * s) j (.int x)) := h.as (fun _ => ⟨(S_a s hs).2.1, (S_a s hs).2.2.2⟩)
theorem Sh.wS {w : zH} (h : Sh w) {s off m i : Nat} {f : Nat → Int32} (hs : s < 8) : Sh (zwl (20 + 2 * s) off f m i w) := Sh.wl (fun _ => ⟨(S_a s hs).2.1, (S_a s hs).2.2.2⟩) m i w h
theorem ga_w38 {u : zH} (h : Sh u) {s : Nat} (hs : s < 8) (i : Nat) : ga (zwl 38 (100 * s) (fun _ => 0) 100 0 u) 38 i = if 100 * s ≤ i ∧ i < 100 * s + 100 then 0 else ga u 38 i := ga_wl 100 0 u (fun j hj => L_38 h (by omega))
theorem ga_wS {u : zH} (h : Sh u) {s : Nat} (hs : s < 8) (i : Nat) : ga (zwl (20 + 2 * s) 0 (fun _ => 0) 100 0 u) (20 + 2 * s) i = if 0 ≤ i ∧ i < 0 + 100 then 0 else ga u (20 + 2 * s) i := ga_wl 100 0 u (fun j hj => S_L h hs (by omega))
theorem k_sheetAt_no {w : zH} {p : Int32} (hp : ¬ (0 ≤ p ∧ p ≤ 7)) : zrun none (110, 0, [.ref 0, .int p], [], w) = some (some .null, w) := by
  simp (disch := first | exact Nat.le_of_ble_eq_true rfl | exact zct_i _ | exact zct_r _ | exact zct_J | exact zct_n | with_reducible assumption | (with_reducible show (zf _ _ _).isSome = true; exact Sh.some (by repeat first | with_reducible assumption | (with_reducible refine Sh.pf ?_ ?_; rotate_left 1; exact fun _ => by decide +kernel) | (with_reducible refine Sh.as ?_ ?_; rotate_left 1; exact fun _ => by decide +kernel) | (with_reducible refine Sh.asr ?_ ?_; rotate_left 1; exact fun _ => by decide +kernel) | with_reducible refine Sh.push ?_ | (with_reducible refine Sh.pfn ?_ ?_; rotate_left 1; omega) | (with_reducible refine Sh.asn ?_ ?_; rotate_left 1; omega)) (by decide) (by decide +kernel) (by decide +kernel)) | exact rfl | exact zb01 _ | decide | fail) only [e110_0, e110_1, e110_2, e110_4, e110_7, e110_10, e110_11, e110_14, e110_15, e110_16, e110_19, e110_20, e110_20n, zgd_true, zcl_ite, zX, Nat.reduceLT, Option.isSome_some, true_and, and_true, zo_some, zoi_some, zon_some, zcl_some, Option.toList_some, Option.toList_none, List.cons_append, List.nil_append, ite_true, ite_false, ↓reduceIte, z10, eq_self, not_true_eq_false, not_false_eq_true, and_self, or_true, true_or, k_within, hp]
theorem k_sheetAt_yes {w : zH} (h : Sh w) {s : Nat} (hs : s < 8) : zrun none (110, 0, [.ref 0, .int (nI s)], [], w) = some (some (.ref (19 + 2 * s)), w) := by
  have hp : 0 ≤ nI s ∧ nI s ≤ 7 := ⟨nI_pos' (by omega), nI_le (b := 7) (by omega) (by decide)⟩
  simp (disch := first | exact Nat.le_of_ble_eq_true rfl | exact zct_i _ | exact zct_r _ | exact zct_J | exact zct_n | with_reducible assumption | (with_reducible show (zf _ _ _).isSome = true; exact Sh.some (by repeat first | with_reducible assumption | (with_reducible refine Sh.pf ?_ ?_; rotate_left 1; exact fun _ => by decide +kernel) | (with_reducible refine Sh.as ?_ ?_; rotate_left 1; exact fun _ => by decide +kernel) | (with_reducible refine Sh.asr ?_ ?_; rotate_left 1; exact fun _ => by decide +kernel) | with_reducible refine Sh.push ?_ | (with_reducible refine Sh.pfn ?_ ?_; rotate_left 1; omega) | (with_reducible refine Sh.asn ?_ ?_; rotate_left 1; omega)) (by decide) (by decide +kernel) (by decide +kernel)) | exact rfl | exact zb01 _ | decide | fail) only [e110_0, e110_1, e110_2, e110_4, e110_7, e110_10, e110_11, e110_14, e110_15, e110_16, e110_19, e110_20, e110_20n, zgd_true, zcl_ite, zX, Nat.reduceLT, Option.isSome_some, true_and, and_true, zo_some, zoi_some, zon_some, zcl_some, Option.toList_some, Option.toList_none, List.cons_append, List.nil_append, ite_true, ite_false, ↓reduceIte, z10, eq_self, not_true_eq_false, not_false_eq_true, and_self, or_true, true_or, i_0 h, f_0_1100 h, f_0_1101 h, f_0_1102 h, f_0_1103 h, f_0_1104 h, f_0_1105 h, f_0_1106 h, f_0_1107 h, f_0_1108 h, f_0_1109 h, f_0_1110 h, f_0_1111 h, f_0_1112 h, f_0_1113 h, f_0_1114 h, f_0_1115 h, f_0_1116 h, f_0_1117 h, f_0_1118 h, f_0_1119 h, k_within, hp, A_1 h hs, S_ptr h hs]
/-- a sheet of both -/
def ISh (w : zH) (s : Nat) : Prop := (gi w (19 + 2 * s) 801 = (if ga w 36 s < 0 then 0 else 1) ∧ (0 ≤ ga w 36 s → gi w (19 + 2 * s) 802 = ga w 36 s) ∧ -1 ≤ ga w 36 s ∧ ga w 36 s ≤ 2 ∧ gi w (19 + 2 * s) 803 = ga w 37 s ∧ 0 ≤ ga w 37 s ∧ ga w 37 s ≤ 100) ∧ ∀ k : Nat, k < 100 → ga w (20 + 2 * s) k = ga w 38 (100 * s + k)
theorem IE_upd {w w2 : zH} {s : Nat} (h : IE w) (hg : ∀ t, t < 8 → t ≠ s → w2[19 + 2 * t]? = w[19 + 2 * t]? ∧ w2[20 + 2 * t]? = w[20 + 2 * t]?) (h36 : ∀ t, t < 8 → t ≠ s → ga w2 36 t = ga w 36 t ∧ ga w2 37 t = ga w 37 t) (h38 : ∀ t k, t < 8 → t ≠ s → k < 100 → ga w2 38 (100 * t + k) = ga w 38 (100 * t + k)) (hS : s < 8 → ISh w2 s) : IE w2 := by
  intro t ht
  by_cases e : t = s
  · subst e
    exact hS ht
  · have a := hg t ht e
    have b := h36 t ht e
    have q := h t ht
    rw [gi_eq a.1, gi_eq a.1, gi_eq a.1, b.1, b.2]
    refine ⟨q.1, fun k hk => ?_⟩
    rw [ga_eq a.2, h38 t k ht e hk]
    exact q.2 k hk
theorem k_fill_loop {a : Nat} {N : Nat} (hN : N ≤ 1000) (x : Int32) : ∀ (m i : Nat) (w : zH), i + m = N → (∀ j, j < N → zin? w a 100 (nI j) = True) → zrun none (240, 5, [.ref a, .int x, .int (nI i), .int (nI N)], [], w) = some (none, zwl a 0 (fun _ => x) m i w) := by
  intro m
  induction m with
  | zero =>
    intro i w hi hz
    have q1 : nI N ≤ nI i := nI_le (by omega) (by omega)
    rw [e240_5]
    simp (disch := first | exact Nat.le_of_ble_eq_true rfl | exact zct_i _ | exact zct_r _ | exact zct_J | exact zct_n | with_reducible assumption | (with_reducible show (zf _ _ _).isSome = true; exact Sh.some (by repeat first | with_reducible assumption | (with_reducible refine Sh.pf ?_ ?_; rotate_left 1; exact fun _ => by decide +kernel) | (with_reducible refine Sh.as ?_ ?_; rotate_left 1; exact fun _ => by decide +kernel) | (with_reducible refine Sh.asr ?_ ?_; rotate_left 1; exact fun _ => by decide +kernel) | with_reducible refine Sh.push ?_ | (with_reducible refine Sh.pfn ?_ ?_; rotate_left 1; omega) | (with_reducible refine Sh.asn ?_ ?_; rotate_left 1; omega)) (by decide) (by decide +kernel) (by decide +kernel)) | exact rfl | exact zb01 _ | decide | fail) only [e240_0, e240_1, e240_2, e240_2n, e240_3, e240_4, e240_6, e240_7, e240_10, e240_10n, e240_11, e240_12, e240_13, e240_14, e240_17, e240_20, zgd_true, zcl_ite, zX, Nat.reduceLT, Option.isSome_some, true_and, and_true, zo_some, zoi_some, zon_some, zcl_some, Option.toList_some, Option.toList_none, List.cons_append, List.nil_append, ite_true, ite_false, ↓reduceIte, z10, eq_self, not_true_eq_false, not_false_eq_true, and_self, or_true, true_or, q1, zwl]
  | succ m ih =>
    intro i w hi hz
    have q1 : ¬ nI N ≤ nI i := nI_ge (by omega) (by omega)
    have z := hz i (by omega)
    have ih1 := ih (i + 1) (zas w a (nI i) (.int x)) (by omega) (fun j hj => by rw [zin_as]; exact hz j hj)
    rw [e240_5]
    simp (disch := first | exact Nat.le_of_ble_eq_true rfl | exact zct_i _ | exact zct_r _ | exact zct_J | exact zct_n | with_reducible assumption | (with_reducible show (zf _ _ _).isSome = true; exact Sh.some (by repeat first | with_reducible assumption | (with_reducible refine Sh.pf ?_ ?_; rotate_left 1; exact fun _ => by decide +kernel) | (with_reducible refine Sh.as ?_ ?_; rotate_left 1; exact fun _ => by decide +kernel) | (with_reducible refine Sh.asr ?_ ?_; rotate_left 1; exact fun _ => by decide +kernel) | with_reducible refine Sh.push ?_ | (with_reducible refine Sh.pfn ?_ ?_; rotate_left 1; omega) | (with_reducible refine Sh.asn ?_ ?_; rotate_left 1; omega)) (by decide) (by decide +kernel) (by decide +kernel)) | exact rfl | exact zb01 _ | decide | fail) only [e240_0, e240_1, e240_2, e240_2n, e240_3, e240_4, e240_6, e240_7, e240_10, e240_10n, e240_11, e240_12, e240_13, e240_14, e240_17, e240_20, zgd_true, zcl_ite, zX, Nat.reduceLT, Option.isSome_some, true_and, and_true, zo_some, zoi_some, zon_some, zcl_some, Option.toList_some, Option.toList_none, List.cons_append, List.nil_append, ite_true, ite_false, ↓reduceIte, z10, eq_self, not_true_eq_false, not_false_eq_true, and_self, or_true, true_or, q1, z, nI_1, ih1, zwl, Nat.zero_add]
theorem k_lay {w : zH} (h : Sh w) {s : Nat} (hs : s < 8) (l n : Int32) : zrun none (35, 0, [.ref (19 + 2 * s), .int l, .int n], [], w) = some (none, zpf (zpf (zpf (zwl (20 + 2 * s) 0 (fun _ => 0) 100 0 w) (19 + 2 * s) 801 (.int 1)) (19 + 2 * s) 802 (.int l)) (19 + 2 * s) 803 (.int n)) := by
  have f1 := k_fill_loop (a := 20 + 2 * s) (N := 100) (by decide) 0 100 0 w (by decide) (fun j hj => S_N h hs hj)
  have hw := h.wS (s := s) (off := 0) (m := 100) (i := 0) (f := fun _ => 0) hs
  have hX : 19 + 2 * s < 1000000 := by omega
  have f2 : zrun none (240, 0, [.ref (20 + 2 * s), .int 0, zJ, zJ], [], w) = some (none, zwl (20 + 2 * s) 0 (fun _ => 0) 100 0 w) := by
    simp (disch := first | exact Nat.le_of_ble_eq_true rfl | exact zct_i _ | exact zct_r _ | exact zct_J | exact zct_n | with_reducible assumption | (with_reducible show (zf _ _ _).isSome = true; exact Sh.some (by repeat first | with_reducible assumption | (with_reducible refine Sh.pf ?_ ?_; rotate_left 1; exact fun _ => by decide +kernel) | (with_reducible refine Sh.as ?_ ?_; rotate_left 1; exact fun _ => by decide +kernel) | (with_reducible refine Sh.asr ?_ ?_; rotate_left 1; exact fun _ => by decide +kernel) | with_reducible refine Sh.push ?_ | (with_reducible refine Sh.pfn ?_ ?_; rotate_left 1; omega) | (with_reducible refine Sh.asn ?_ ?_; rotate_left 1; omega)) (by decide) (by decide +kernel) (by decide +kernel)) | exact rfl | exact zb01 _ | decide | fail) only [e240_0, e240_1, e240_2, e240_2n, e240_3, e240_4, e240_6, e240_7, e240_10, e240_10n, e240_11, e240_12, e240_13, e240_14, e240_17, e240_20, zgd_true, zcl_ite, zX, Nat.reduceLT, Option.isSome_some, true_and, and_true, zo_some, zoi_some, zon_some, zcl_some, Option.toList_some, Option.toList_none, List.cons_append, List.nil_append, ite_true, ite_false, ↓reduceIte, z10, eq_self, not_true_eq_false, not_false_eq_true, and_self, or_true, true_or, S_l h hs]
    exact f1
  have i1 : (zf (zwl (20 + 2 * s) 0 (fun _ => 0) 100 0 w) (19 + 2 * s) 801).isSome = true := S_i hw hs (by decide)
  have i2 : (zf (zwl (20 + 2 * s) 0 (fun _ => 0) 100 0 w) (19 + 2 * s) 802).isSome = true := S_i hw hs (by decide)
  have i3 : (zf (zwl (20 + 2 * s) 0 (fun _ => 0) 100 0 w) (19 + 2 * s) 803).isSome = true := S_i hw hs (by decide)
  simp (disch := first | exact Nat.le_of_ble_eq_true rfl | exact zct_i _ | exact zct_r _ | exact zct_J | exact zct_n | with_reducible assumption | (with_reducible show (zf _ _ _).isSome = true; exact Sh.some (by repeat first | with_reducible assumption | (with_reducible refine Sh.pf ?_ ?_; rotate_left 1; exact fun _ => by decide +kernel) | (with_reducible refine Sh.as ?_ ?_; rotate_left 1; exact fun _ => by decide +kernel) | (with_reducible refine Sh.asr ?_ ?_; rotate_left 1; exact fun _ => by decide +kernel) | with_reducible refine Sh.push ?_ | (with_reducible refine Sh.pfn ?_ ?_; rotate_left 1; omega) | (with_reducible refine Sh.asn ?_ ?_; rotate_left 1; omega)) (by decide) (by decide +kernel) (by decide +kernel)) | exact rfl | exact zb01 _ | decide | fail) only [e35_0, e35_1, e35_4, e35_5, e35_8, e35_9, e35_10, e35_13, e35_14, e35_15, e35_18, e35_19, e35_20, e35_23, zgd_true, zcl_ite, zX, Nat.reduceLT, Option.isSome_some, true_and, and_true, zo_some, zoi_some, zon_some, zcl_some, Option.toList_some, Option.toList_none, List.cons_append, List.nil_append, ite_true, ite_false, ↓reduceIte, z10, eq_self, not_true_eq_false, not_false_eq_true, and_self, or_true, true_or, S_800 h hs, f2, zsm_pf, i1, i2, i3, hX]
theorem m_sheet_loop {s : Nat} (hs : s < 8) (l n : Int32) : ∀ (m i : Nat) (w : zH), Sh w → i + m = 100 → zrun none (150, 65, [.ref 35, .int (nI s), .int l, .int n, .int (nI i)], [], w) = some (some (.int n), zwl 38 (100 * s) (fun _ => 0) m i w) := by
  intro m
  induction m with
  | zero =>
    intro i w h hi
    have q1 : 100 ≤ nI i := nI_le (a := 100) (by omega) (by omega)
    rw [e150_65]
    simp (disch := first | exact Nat.le_of_ble_eq_true rfl | exact zct_i _ | exact zct_r _ | exact zct_J | exact zct_n | with_reducible assumption | (with_reducible show (zf _ _ _).isSome = true; exact Sh.some (by repeat first | with_reducible assumption | (with_reducible refine Sh.pf ?_ ?_; rotate_left 1; exact fun _ => by decide +kernel) | (with_reducible refine Sh.as ?_ ?_; rotate_left 1; exact fun _ => by decide +kernel) | (with_reducible refine Sh.asr ?_ ?_; rotate_left 1; exact fun _ => by decide +kernel) | with_reducible refine Sh.push ?_ | (with_reducible refine Sh.pfn ?_ ?_; rotate_left 1; omega) | (with_reducible refine Sh.asn ?_ ?_; rotate_left 1; omega)) (by decide) (by decide +kernel) (by decide +kernel)) | exact rfl | exact zb01 _ | decide | fail) only [e150_0, e150_1, e150_2, e150_5, e150_6, e150_9, e150_12, e150_13, e150_14, e150_15, e150_18, e150_21, e150_24, e150_25, e150_27, e150_30, e150_32, e150_33, e150_34, e150_35, e150_38, e150_39, e150_42, e150_43, e150_44, e150_47, e150_48, e150_49, e150_52, e150_53, e150_54, e150_55, e150_56, e150_59, e150_60, e150_61, e150_62, e150_63, e150_67, e150_69, e150_72, e150_73, e150_76, e150_78, e150_79, e150_80, e150_82, e150_83, e150_84, e150_85, e150_88, e150_91, e150_92, zgd_true, zcl_ite, zX, Nat.reduceLT, Option.isSome_some, true_and, and_true, zo_some, zoi_some, zon_some, zcl_some, Option.toList_some, Option.toList_none, List.cons_append, List.nil_append, ite_true, ite_false, ↓reduceIte, z10, eq_self, not_true_eq_false, not_false_eq_true, and_self, or_true, true_or, q1, zwl]
  | succ m ih =>
    intro i w h hi
    have hi1 : i < 100 := by omega
    have hi2 : 100 * s + i < 800 := by omega
    have ih1 := ih (i + 1) (zas w 38 (nI (100 * s + i)) (.int 0)) (by repeat first | with_reducible assumption | (with_reducible refine Sh.pf ?_ ?_; rotate_left 1; exact fun _ => by decide +kernel) | (with_reducible refine Sh.as ?_ ?_; rotate_left 1; exact fun _ => by decide +kernel) | (with_reducible refine Sh.asr ?_ ?_; rotate_left 1; exact fun _ => by decide +kernel) | with_reducible refine Sh.push ?_ | (with_reducible refine Sh.pfn ?_ ?_; rotate_left 1; omega) | (with_reducible refine Sh.asn ?_ ?_; rotate_left 1; omega)) (by omega)
    rw [e150_65]
    simp (disch := first | exact Nat.le_of_ble_eq_true rfl | exact zct_i _ | exact zct_r _ | exact zct_J | exact zct_n | with_reducible assumption | (with_reducible show (zf _ _ _).isSome = true; exact Sh.some (by repeat first | with_reducible assumption | (with_reducible refine Sh.pf ?_ ?_; rotate_left 1; exact fun _ => by decide +kernel) | (with_reducible refine Sh.as ?_ ?_; rotate_left 1; exact fun _ => by decide +kernel) | (with_reducible refine Sh.asr ?_ ?_; rotate_left 1; exact fun _ => by decide +kernel) | with_reducible refine Sh.push ?_ | (with_reducible refine Sh.pfn ?_ ?_; rotate_left 1; omega) | (with_reducible refine Sh.asn ?_ ?_; rotate_left 1; omega)) (by decide) (by decide +kernel) (by decide +kernel)) | exact rfl | exact zb01 _ | decide | fail) only [e150_0, e150_1, e150_2, e150_5, e150_6, e150_9, e150_12, e150_13, e150_14, e150_15, e150_18, e150_21, e150_24, e150_25, e150_27, e150_30, e150_32, e150_33, e150_34, e150_35, e150_38, e150_39, e150_42, e150_43, e150_44, e150_47, e150_48, e150_49, e150_52, e150_53, e150_54, e150_55, e150_56, e150_59, e150_60, e150_61, e150_62, e150_63, e150_67, e150_69, e150_72, e150_73, e150_76, e150_78, e150_79, e150_80, e150_82, e150_83, e150_84, e150_85, e150_88, e150_91, e150_92, zgd_true, zcl_ite, zX, Nat.reduceLT, Option.isSome_some, true_and, and_true, zo_some, zoi_some, zon_some, zcl_some, Option.toList_some, Option.toList_none, List.cons_append, List.nil_append, ite_true, ite_false, ↓reduceIte, z10, eq_self, not_true_eq_false, not_false_eq_true, and_self, or_true, true_or, i_35 h, f_35_1200 h, f_35_1201 h, f_35_1202 h, f_35_1203 h, f_35_1204 h, f_35_1205 h, f_35_1206 h, f_35_1207 h, f_35_1208 h, f_35_1209 h, f_35_1210 h, f_35_1211 h, f_35_1212 h, f_35_1213 h, f_35_1214 h, f_35_1215 h, f_35_1216 h, f_35_1217 h, f_35_1218 h, f_35_1219 h, f_35_1220 h, f_35_1221 h, f_35_1222 h, f_35_1223 h, f_35_1224 h, f_35_1225 h, f_35_1226 h, f_35_1227 h, f_35_1228 h, f_35_1229 h, f_35_1230 h, f_35_1231 h, f_35_1232 h, f_35_1233 h, f_35_1234 h, f_35_1235 h, f_35_1236 h, f_35_1237 h, f_35_1238 h, f_35_1239 h, f_35_1240 h, f_35_1241 h, f_35_1242 h, f_35_1243 h, f_35_1244 h, f_35_1245 h, f_35_1246 h, f_35_1247 h, f_35_1248 h, f_35_1249 h, f_35_1250 h, Gt_100, N_38 h hi2, zm_100, nI_add, nI_1, ih1, zwl]

