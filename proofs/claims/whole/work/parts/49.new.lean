/-! arrays by natural places (gen_49.py writes this) -/
theorem zShA {w : zH} {a k i : Nat} (h : Sh w) (ha : a < 65) (hk : (zsh a).1 = k) (h100 : k = 100 ∨ k = 101) (hp : (zsh a).2.2 = []) (hi : i < (zsh a).2.1) (h1 : (zsh a).2.1 ≤ 1000) : zai w a k (nI i) = some (ga w a i) := by
  rw [h.ai ha hk h100 hp, nI_clamp (by omega), if_pos ⟨nI_pos' (by omega), hi⟩]
theorem zShR {w : zH} {a i : Nat} (h : Sh w) (ha : a < 65) (hk : 200 ≤ (zsh a).1) (hi : i < (zsh a).2.1) (h1 : (zsh a).2.1 ≤ 1000) : zaa w a (nI i) = some (gr w a i) := by
  rw [h.aa ha hk, nI_clamp (by omega), if_pos ⟨nI_pos' (by omega), hi⟩]
theorem zShN {w : zH} {a k i : Nat} (h : Sh w) (ha : a < 65) (hk : (zsh a).1 = k) (hi : i < (zsh a).2.1) (h1 : (zsh a).2.1 ≤ 1000) : zin? w a k (nI i) = True := by
  refine eq_true ((h.in ha hk).mpr ⟨nI_pos' (by omega), ?_⟩)
  rw [nI_clamp (by omega)]
  exact hi
theorem A_1 {w : zH} (h : Sh w) {i : Nat} (hi : i < 8) : zaa w 1 (nI i) = some (gr w 1 i) := zShR h (by decide) (by decide +kernel) (Nat.lt_of_lt_of_le hi (by decide +kernel)) (by decide +kernel)
theorem L_1 {w : zH} (h : Sh w) {i : Nat} (hi : i < 8) : zln w 1 i := h.ln (by decide) (Nat.lt_of_lt_of_le hi (by decide +kernel)) (by omega)
theorem A_3 {w : zH} (h : Sh w) {i : Nat} (hi : i < 30) : zaa w 3 (nI i) = some (gr w 3 i) := zShR h (by decide) (by decide +kernel) (Nat.lt_of_lt_of_le hi (by decide +kernel)) (by decide +kernel)
theorem L_3 {w : zH} (h : Sh w) {i : Nat} (hi : i < 30) : zln w 3 i := h.ln (by decide) (Nat.lt_of_lt_of_le hi (by decide +kernel)) (by omega)
theorem A_4 {w : zH} (h : Sh w) {i : Nat} (hi : i < 16) : zaa w 4 (nI i) = some (gr w 4 i) := zShR h (by decide) (by decide +kernel) (Nat.lt_of_lt_of_le hi (by decide +kernel)) (by decide +kernel)
theorem L_4 {w : zH} (h : Sh w) {i : Nat} (hi : i < 16) : zln w 4 i := h.ln (by decide) (Nat.lt_of_lt_of_le hi (by decide +kernel)) (by omega)
theorem A_6 {w : zH} (h : Sh w) {i : Nat} (hi : i < 500) : zai w 6 101 (nI i) = some (ga w 6 i) := zShA h (by decide) (by decide +kernel) (by decide) (by decide +kernel) (Nat.lt_of_lt_of_le hi (by decide +kernel)) (by decide +kernel)
theorem N_6 {w : zH} (h : Sh w) {i : Nat} (hi : i < 500) : zin? w 6 101 (nI i) = True := zShN h (by decide) (by decide +kernel) (Nat.lt_of_lt_of_le hi (by decide +kernel)) (by decide +kernel)
theorem L_6 {w : zH} (h : Sh w) {i : Nat} (hi : i < 500) : zln w 6 i := h.ln (by decide) (Nat.lt_of_lt_of_le hi (by decide +kernel)) (by omega)
theorem A_7 {w : zH} (h : Sh w) {i : Nat} (hi : i < 24) : zaa w 7 (nI i) = some (gr w 7 i) := zShR h (by decide) (by decide +kernel) (Nat.lt_of_lt_of_le hi (by decide +kernel)) (by decide +kernel)
theorem L_7 {w : zH} (h : Sh w) {i : Nat} (hi : i < 24) : zln w 7 i := h.ln (by decide) (Nat.lt_of_lt_of_le hi (by decide +kernel)) (by omega)
theorem A_8 {w : zH} (h : Sh w) {i : Nat} (hi : i < 10) : zaa w 8 (nI i) = some (gr w 8 i) := zShR h (by decide) (by decide +kernel) (Nat.lt_of_lt_of_le hi (by decide +kernel)) (by decide +kernel)
theorem L_8 {w : zH} (h : Sh w) {i : Nat} (hi : i < 10) : zln w 8 i := h.ln (by decide) (Nat.lt_of_lt_of_le hi (by decide +kernel)) (by omega)
theorem A_10 {w : zH} (h : Sh w) {i : Nat} (hi : i < 8) : zai w 10 100 (nI i) = some (ga w 10 i) := zShA h (by decide) (by decide +kernel) (by decide) (by decide +kernel) (Nat.lt_of_lt_of_le hi (by decide +kernel)) (by decide +kernel)
theorem N_10 {w : zH} (h : Sh w) {i : Nat} (hi : i < 8) : zin? w 10 100 (nI i) = True := zShN h (by decide) (by decide +kernel) (Nat.lt_of_lt_of_le hi (by decide +kernel)) (by decide +kernel)
theorem L_10 {w : zH} (h : Sh w) {i : Nat} (hi : i < 8) : zln w 10 i := h.ln (by decide) (Nat.lt_of_lt_of_le hi (by decide +kernel)) (by omega)
theorem A_11 {w : zH} (h : Sh w) {i : Nat} (hi : i < 256) : zai w 11 100 (nI i) = some (ga w 11 i) := zShA h (by decide) (by decide +kernel) (by decide) (by decide +kernel) (Nat.lt_of_lt_of_le hi (by decide +kernel)) (by decide +kernel)
theorem N_11 {w : zH} (h : Sh w) {i : Nat} (hi : i < 256) : zin? w 11 100 (nI i) = True := zShN h (by decide) (by decide +kernel) (Nat.lt_of_lt_of_le hi (by decide +kernel)) (by decide +kernel)
theorem L_11 {w : zH} (h : Sh w) {i : Nat} (hi : i < 256) : zln w 11 i := h.ln (by decide) (Nat.lt_of_lt_of_le hi (by decide +kernel)) (by omega)
theorem A_12 {w : zH} (h : Sh w) {i : Nat} (hi : i < 20) : zaa w 12 (nI i) = some (gr w 12 i) := zShR h (by decide) (by decide +kernel) (Nat.lt_of_lt_of_le hi (by decide +kernel)) (by decide +kernel)
theorem L_12 {w : zH} (h : Sh w) {i : Nat} (hi : i < 20) : zln w 12 i := h.ln (by decide) (Nat.lt_of_lt_of_le hi (by decide +kernel)) (by omega)
theorem A_13 {w : zH} (h : Sh w) {i : Nat} (hi : i < 12) : zai w 13 100 (nI i) = some (ga w 13 i) := zShA h (by decide) (by decide +kernel) (by decide) (by decide +kernel) (Nat.lt_of_lt_of_le hi (by decide +kernel)) (by decide +kernel)
theorem N_13 {w : zH} (h : Sh w) {i : Nat} (hi : i < 12) : zin? w 13 100 (nI i) = True := zShN h (by decide) (by decide +kernel) (Nat.lt_of_lt_of_le hi (by decide +kernel)) (by decide +kernel)
theorem L_13 {w : zH} (h : Sh w) {i : Nat} (hi : i < 12) : zln w 13 i := h.ln (by decide) (Nat.lt_of_lt_of_le hi (by decide +kernel)) (by omega)
theorem A_14 {w : zH} (h : Sh w) {i : Nat} (hi : i < 12) : zai w 14 100 (nI i) = some (ga w 14 i) := zShA h (by decide) (by decide +kernel) (by decide) (by decide +kernel) (Nat.lt_of_lt_of_le hi (by decide +kernel)) (by decide +kernel)
theorem N_14 {w : zH} (h : Sh w) {i : Nat} (hi : i < 12) : zin? w 14 100 (nI i) = True := zShN h (by decide) (by decide +kernel) (Nat.lt_of_lt_of_le hi (by decide +kernel)) (by decide +kernel)
theorem L_14 {w : zH} (h : Sh w) {i : Nat} (hi : i < 12) : zln w 14 i := h.ln (by decide) (Nat.lt_of_lt_of_le hi (by decide +kernel)) (by omega)
theorem A_16 {w : zH} (h : Sh w) {i : Nat} (hi : i < 16) : zaa w 16 (nI i) = some (gr w 16 i) := zShR h (by decide) (by decide +kernel) (Nat.lt_of_lt_of_le hi (by decide +kernel)) (by decide +kernel)
theorem L_16 {w : zH} (h : Sh w) {i : Nat} (hi : i < 16) : zln w 16 i := h.ln (by decide) (Nat.lt_of_lt_of_le hi (by decide +kernel)) (by omega)
theorem A_17 {w : zH} (h : Sh w) {i : Nat} (hi : i < 12) : zai w 17 100 (nI i) = some (ga w 17 i) := zShA h (by decide) (by decide +kernel) (by decide) (by decide +kernel) (Nat.lt_of_lt_of_le hi (by decide +kernel)) (by decide +kernel)
theorem N_17 {w : zH} (h : Sh w) {i : Nat} (hi : i < 12) : zin? w 17 100 (nI i) = True := zShN h (by decide) (by decide +kernel) (Nat.lt_of_lt_of_le hi (by decide +kernel)) (by decide +kernel)
theorem L_17 {w : zH} (h : Sh w) {i : Nat} (hi : i < 12) : zln w 17 i := h.ln (by decide) (Nat.lt_of_lt_of_le hi (by decide +kernel)) (by omega)
theorem A_18 {w : zH} (h : Sh w) {i : Nat} (hi : i < 16) : zai w 18 100 (nI i) = some (ga w 18 i) := zShA h (by decide) (by decide +kernel) (by decide) (by decide +kernel) (Nat.lt_of_lt_of_le hi (by decide +kernel)) (by decide +kernel)
theorem N_18 {w : zH} (h : Sh w) {i : Nat} (hi : i < 16) : zin? w 18 100 (nI i) = True := zShN h (by decide) (by decide +kernel) (Nat.lt_of_lt_of_le hi (by decide +kernel)) (by decide +kernel)
theorem L_18 {w : zH} (h : Sh w) {i : Nat} (hi : i < 16) : zln w 18 i := h.ln (by decide) (Nat.lt_of_lt_of_le hi (by decide +kernel)) (by omega)
theorem A_20 {w : zH} (h : Sh w) {i : Nat} (hi : i < 100) : zai w 20 100 (nI i) = some (ga w 20 i) := zShA h (by decide) (by decide +kernel) (by decide) (by decide +kernel) (Nat.lt_of_lt_of_le hi (by decide +kernel)) (by decide +kernel)
theorem N_20 {w : zH} (h : Sh w) {i : Nat} (hi : i < 100) : zin? w 20 100 (nI i) = True := zShN h (by decide) (by decide +kernel) (Nat.lt_of_lt_of_le hi (by decide +kernel)) (by decide +kernel)
theorem L_20 {w : zH} (h : Sh w) {i : Nat} (hi : i < 100) : zln w 20 i := h.ln (by decide) (Nat.lt_of_lt_of_le hi (by decide +kernel)) (by omega)
theorem A_22 {w : zH} (h : Sh w) {i : Nat} (hi : i < 100) : zai w 22 100 (nI i) = some (ga w 22 i) := zShA h (by decide) (by decide +kernel) (by decide) (by decide +kernel) (Nat.lt_of_lt_of_le hi (by decide +kernel)) (by decide +kernel)
theorem N_22 {w : zH} (h : Sh w) {i : Nat} (hi : i < 100) : zin? w 22 100 (nI i) = True := zShN h (by decide) (by decide +kernel) (Nat.lt_of_lt_of_le hi (by decide +kernel)) (by decide +kernel)
theorem L_22 {w : zH} (h : Sh w) {i : Nat} (hi : i < 100) : zln w 22 i := h.ln (by decide) (Nat.lt_of_lt_of_le hi (by decide +kernel)) (by omega)
theorem A_24 {w : zH} (h : Sh w) {i : Nat} (hi : i < 100) : zai w 24 100 (nI i) = some (ga w 24 i) := zShA h (by decide) (by decide +kernel) (by decide) (by decide +kernel) (Nat.lt_of_lt_of_le hi (by decide +kernel)) (by decide +kernel)
theorem N_24 {w : zH} (h : Sh w) {i : Nat} (hi : i < 100) : zin? w 24 100 (nI i) = True := zShN h (by decide) (by decide +kernel) (Nat.lt_of_lt_of_le hi (by decide +kernel)) (by decide +kernel)
theorem L_24 {w : zH} (h : Sh w) {i : Nat} (hi : i < 100) : zln w 24 i := h.ln (by decide) (Nat.lt_of_lt_of_le hi (by decide +kernel)) (by omega)
theorem A_26 {w : zH} (h : Sh w) {i : Nat} (hi : i < 100) : zai w 26 100 (nI i) = some (ga w 26 i) := zShA h (by decide) (by decide +kernel) (by decide) (by decide +kernel) (Nat.lt_of_lt_of_le hi (by decide +kernel)) (by decide +kernel)
theorem N_26 {w : zH} (h : Sh w) {i : Nat} (hi : i < 100) : zin? w 26 100 (nI i) = True := zShN h (by decide) (by decide +kernel) (Nat.lt_of_lt_of_le hi (by decide +kernel)) (by decide +kernel)
theorem L_26 {w : zH} (h : Sh w) {i : Nat} (hi : i < 100) : zln w 26 i := h.ln (by decide) (Nat.lt_of_lt_of_le hi (by decide +kernel)) (by omega)
theorem A_28 {w : zH} (h : Sh w) {i : Nat} (hi : i < 100) : zai w 28 100 (nI i) = some (ga w 28 i) := zShA h (by decide) (by decide +kernel) (by decide) (by decide +kernel) (Nat.lt_of_lt_of_le hi (by decide +kernel)) (by decide +kernel)
theorem N_28 {w : zH} (h : Sh w) {i : Nat} (hi : i < 100) : zin? w 28 100 (nI i) = True := zShN h (by decide) (by decide +kernel) (Nat.lt_of_lt_of_le hi (by decide +kernel)) (by decide +kernel)
theorem L_28 {w : zH} (h : Sh w) {i : Nat} (hi : i < 100) : zln w 28 i := h.ln (by decide) (Nat.lt_of_lt_of_le hi (by decide +kernel)) (by omega)
theorem A_30 {w : zH} (h : Sh w) {i : Nat} (hi : i < 100) : zai w 30 100 (nI i) = some (ga w 30 i) := zShA h (by decide) (by decide +kernel) (by decide) (by decide +kernel) (Nat.lt_of_lt_of_le hi (by decide +kernel)) (by decide +kernel)
theorem N_30 {w : zH} (h : Sh w) {i : Nat} (hi : i < 100) : zin? w 30 100 (nI i) = True := zShN h (by decide) (by decide +kernel) (Nat.lt_of_lt_of_le hi (by decide +kernel)) (by decide +kernel)
theorem L_30 {w : zH} (h : Sh w) {i : Nat} (hi : i < 100) : zln w 30 i := h.ln (by decide) (Nat.lt_of_lt_of_le hi (by decide +kernel)) (by omega)
theorem A_32 {w : zH} (h : Sh w) {i : Nat} (hi : i < 100) : zai w 32 100 (nI i) = some (ga w 32 i) := zShA h (by decide) (by decide +kernel) (by decide) (by decide +kernel) (Nat.lt_of_lt_of_le hi (by decide +kernel)) (by decide +kernel)
theorem N_32 {w : zH} (h : Sh w) {i : Nat} (hi : i < 100) : zin? w 32 100 (nI i) = True := zShN h (by decide) (by decide +kernel) (Nat.lt_of_lt_of_le hi (by decide +kernel)) (by decide +kernel)
theorem L_32 {w : zH} (h : Sh w) {i : Nat} (hi : i < 100) : zln w 32 i := h.ln (by decide) (Nat.lt_of_lt_of_le hi (by decide +kernel)) (by omega)
theorem A_34 {w : zH} (h : Sh w) {i : Nat} (hi : i < 100) : zai w 34 100 (nI i) = some (ga w 34 i) := zShA h (by decide) (by decide +kernel) (by decide) (by decide +kernel) (Nat.lt_of_lt_of_le hi (by decide +kernel)) (by decide +kernel)
theorem N_34 {w : zH} (h : Sh w) {i : Nat} (hi : i < 100) : zin? w 34 100 (nI i) = True := zShN h (by decide) (by decide +kernel) (Nat.lt_of_lt_of_le hi (by decide +kernel)) (by decide +kernel)
theorem L_34 {w : zH} (h : Sh w) {i : Nat} (hi : i < 100) : zln w 34 i := h.ln (by decide) (Nat.lt_of_lt_of_le hi (by decide +kernel)) (by omega)
theorem A_36 {w : zH} (h : Sh w) {i : Nat} (hi : i < 8) : zai w 36 100 (nI i) = some (ga w 36 i) := zShA h (by decide) (by decide +kernel) (by decide) (by decide +kernel) (Nat.lt_of_lt_of_le hi (by decide +kernel)) (by decide +kernel)
theorem N_36 {w : zH} (h : Sh w) {i : Nat} (hi : i < 8) : zin? w 36 100 (nI i) = True := zShN h (by decide) (by decide +kernel) (Nat.lt_of_lt_of_le hi (by decide +kernel)) (by decide +kernel)
theorem L_36 {w : zH} (h : Sh w) {i : Nat} (hi : i < 8) : zln w 36 i := h.ln (by decide) (Nat.lt_of_lt_of_le hi (by decide +kernel)) (by omega)
theorem A_37 {w : zH} (h : Sh w) {i : Nat} (hi : i < 8) : zai w 37 100 (nI i) = some (ga w 37 i) := zShA h (by decide) (by decide +kernel) (by decide) (by decide +kernel) (Nat.lt_of_lt_of_le hi (by decide +kernel)) (by decide +kernel)
theorem N_37 {w : zH} (h : Sh w) {i : Nat} (hi : i < 8) : zin? w 37 100 (nI i) = True := zShN h (by decide) (by decide +kernel) (Nat.lt_of_lt_of_le hi (by decide +kernel)) (by decide +kernel)
theorem L_37 {w : zH} (h : Sh w) {i : Nat} (hi : i < 8) : zln w 37 i := h.ln (by decide) (Nat.lt_of_lt_of_le hi (by decide +kernel)) (by omega)
theorem A_38 {w : zH} (h : Sh w) {i : Nat} (hi : i < 800) : zai w 38 100 (nI i) = some (ga w 38 i) := zShA h (by decide) (by decide +kernel) (by decide) (by decide +kernel) (Nat.lt_of_lt_of_le hi (by decide +kernel)) (by decide +kernel)
theorem N_38 {w : zH} (h : Sh w) {i : Nat} (hi : i < 800) : zin? w 38 100 (nI i) = True := zShN h (by decide) (by decide +kernel) (Nat.lt_of_lt_of_le hi (by decide +kernel)) (by decide +kernel)
theorem L_38 {w : zH} (h : Sh w) {i : Nat} (hi : i < 800) : zln w 38 i := h.ln (by decide) (Nat.lt_of_lt_of_le hi (by decide +kernel)) (by omega)
theorem A_39 {w : zH} (h : Sh w) {i : Nat} (hi : i < 30) : zai w 39 100 (nI i) = some (ga w 39 i) := zShA h (by decide) (by decide +kernel) (by decide) (by decide +kernel) (Nat.lt_of_lt_of_le hi (by decide +kernel)) (by decide +kernel)
theorem N_39 {w : zH} (h : Sh w) {i : Nat} (hi : i < 30) : zin? w 39 100 (nI i) = True := zShN h (by decide) (by decide +kernel) (Nat.lt_of_lt_of_le hi (by decide +kernel)) (by decide +kernel)
theorem L_39 {w : zH} (h : Sh w) {i : Nat} (hi : i < 30) : zln w 39 i := h.ln (by decide) (Nat.lt_of_lt_of_le hi (by decide +kernel)) (by omega)
theorem A_40 {w : zH} (h : Sh w) {i : Nat} (hi : i < 30) : zai w 40 100 (nI i) = some (ga w 40 i) := zShA h (by decide) (by decide +kernel) (by decide) (by decide +kernel) (Nat.lt_of_lt_of_le hi (by decide +kernel)) (by decide +kernel)
theorem N_40 {w : zH} (h : Sh w) {i : Nat} (hi : i < 30) : zin? w 40 100 (nI i) = True := zShN h (by decide) (by decide +kernel) (Nat.lt_of_lt_of_le hi (by decide +kernel)) (by decide +kernel)
theorem L_40 {w : zH} (h : Sh w) {i : Nat} (hi : i < 30) : zln w 40 i := h.ln (by decide) (Nat.lt_of_lt_of_le hi (by decide +kernel)) (by omega)
theorem A_41 {w : zH} (h : Sh w) {i : Nat} (hi : i < 30) : zai w 41 100 (nI i) = some (ga w 41 i) := zShA h (by decide) (by decide +kernel) (by decide) (by decide +kernel) (Nat.lt_of_lt_of_le hi (by decide +kernel)) (by decide +kernel)
theorem N_41 {w : zH} (h : Sh w) {i : Nat} (hi : i < 30) : zin? w 41 100 (nI i) = True := zShN h (by decide) (by decide +kernel) (Nat.lt_of_lt_of_le hi (by decide +kernel)) (by decide +kernel)
theorem L_41 {w : zH} (h : Sh w) {i : Nat} (hi : i < 30) : zln w 41 i := h.ln (by decide) (Nat.lt_of_lt_of_le hi (by decide +kernel)) (by omega)
theorem A_42 {w : zH} (h : Sh w) {i : Nat} (hi : i < 30) : zai w 42 100 (nI i) = some (ga w 42 i) := zShA h (by decide) (by decide +kernel) (by decide) (by decide +kernel) (Nat.lt_of_lt_of_le hi (by decide +kernel)) (by decide +kernel)
theorem N_42 {w : zH} (h : Sh w) {i : Nat} (hi : i < 30) : zin? w 42 100 (nI i) = True := zShN h (by decide) (by decide +kernel) (Nat.lt_of_lt_of_le hi (by decide +kernel)) (by decide +kernel)
theorem L_42 {w : zH} (h : Sh w) {i : Nat} (hi : i < 30) : zln w 42 i := h.ln (by decide) (Nat.lt_of_lt_of_le hi (by decide +kernel)) (by omega)
theorem A_43 {w : zH} (h : Sh w) {i : Nat} (hi : i < 16) : zai w 43 100 (nI i) = some (ga w 43 i) := zShA h (by decide) (by decide +kernel) (by decide) (by decide +kernel) (Nat.lt_of_lt_of_le hi (by decide +kernel)) (by decide +kernel)
theorem N_43 {w : zH} (h : Sh w) {i : Nat} (hi : i < 16) : zin? w 43 100 (nI i) = True := zShN h (by decide) (by decide +kernel) (Nat.lt_of_lt_of_le hi (by decide +kernel)) (by decide +kernel)
theorem L_43 {w : zH} (h : Sh w) {i : Nat} (hi : i < 16) : zln w 43 i := h.ln (by decide) (Nat.lt_of_lt_of_le hi (by decide +kernel)) (by omega)
theorem A_44 {w : zH} (h : Sh w) {i : Nat} (hi : i < 16) : zai w 44 100 (nI i) = some (ga w 44 i) := zShA h (by decide) (by decide +kernel) (by decide) (by decide +kernel) (Nat.lt_of_lt_of_le hi (by decide +kernel)) (by decide +kernel)
theorem N_44 {w : zH} (h : Sh w) {i : Nat} (hi : i < 16) : zin? w 44 100 (nI i) = True := zShN h (by decide) (by decide +kernel) (Nat.lt_of_lt_of_le hi (by decide +kernel)) (by decide +kernel)
theorem L_44 {w : zH} (h : Sh w) {i : Nat} (hi : i < 16) : zln w 44 i := h.ln (by decide) (Nat.lt_of_lt_of_le hi (by decide +kernel)) (by omega)
theorem A_45 {w : zH} (h : Sh w) {i : Nat} (hi : i < 16) : zai w 45 100 (nI i) = some (ga w 45 i) := zShA h (by decide) (by decide +kernel) (by decide) (by decide +kernel) (Nat.lt_of_lt_of_le hi (by decide +kernel)) (by decide +kernel)
theorem N_45 {w : zH} (h : Sh w) {i : Nat} (hi : i < 16) : zin? w 45 100 (nI i) = True := zShN h (by decide) (by decide +kernel) (Nat.lt_of_lt_of_le hi (by decide +kernel)) (by decide +kernel)
theorem L_45 {w : zH} (h : Sh w) {i : Nat} (hi : i < 16) : zln w 45 i := h.ln (by decide) (Nat.lt_of_lt_of_le hi (by decide +kernel)) (by omega)
theorem A_46 {w : zH} (h : Sh w) {i : Nat} (hi : i < 16) : zai w 46 100 (nI i) = some (ga w 46 i) := zShA h (by decide) (by decide +kernel) (by decide) (by decide +kernel) (Nat.lt_of_lt_of_le hi (by decide +kernel)) (by decide +kernel)
theorem N_46 {w : zH} (h : Sh w) {i : Nat} (hi : i < 16) : zin? w 46 100 (nI i) = True := zShN h (by decide) (by decide +kernel) (Nat.lt_of_lt_of_le hi (by decide +kernel)) (by decide +kernel)
theorem L_46 {w : zH} (h : Sh w) {i : Nat} (hi : i < 16) : zln w 46 i := h.ln (by decide) (Nat.lt_of_lt_of_le hi (by decide +kernel)) (by omega)
theorem A_47 {w : zH} (h : Sh w) {i : Nat} (hi : i < 144) : zai w 47 100 (nI i) = some (ga w 47 i) := zShA h (by decide) (by decide +kernel) (by decide) (by decide +kernel) (Nat.lt_of_lt_of_le hi (by decide +kernel)) (by decide +kernel)
theorem N_47 {w : zH} (h : Sh w) {i : Nat} (hi : i < 144) : zin? w 47 100 (nI i) = True := zShN h (by decide) (by decide +kernel) (Nat.lt_of_lt_of_le hi (by decide +kernel)) (by decide +kernel)
theorem L_47 {w : zH} (h : Sh w) {i : Nat} (hi : i < 144) : zln w 47 i := h.ln (by decide) (Nat.lt_of_lt_of_le hi (by decide +kernel)) (by omega)
theorem A_48 {w : zH} (h : Sh w) {i : Nat} (hi : i < 500) : zai w 48 100 (nI i) = some (ga w 48 i) := zShA h (by decide) (by decide +kernel) (by decide) (by decide +kernel) (Nat.lt_of_lt_of_le hi (by decide +kernel)) (by decide +kernel)
theorem N_48 {w : zH} (h : Sh w) {i : Nat} (hi : i < 500) : zin? w 48 100 (nI i) = True := zShN h (by decide) (by decide +kernel) (Nat.lt_of_lt_of_le hi (by decide +kernel)) (by decide +kernel)
theorem L_48 {w : zH} (h : Sh w) {i : Nat} (hi : i < 500) : zln w 48 i := h.ln (by decide) (Nat.lt_of_lt_of_le hi (by decide +kernel)) (by omega)
theorem A_49 {w : zH} (h : Sh w) {i : Nat} (hi : i < 10) : zai w 49 100 (nI i) = some (ga w 49 i) := zShA h (by decide) (by decide +kernel) (by decide) (by decide +kernel) (Nat.lt_of_lt_of_le hi (by decide +kernel)) (by decide +kernel)
theorem N_49 {w : zH} (h : Sh w) {i : Nat} (hi : i < 10) : zin? w 49 100 (nI i) = True := zShN h (by decide) (by decide +kernel) (Nat.lt_of_lt_of_le hi (by decide +kernel)) (by decide +kernel)
theorem L_49 {w : zH} (h : Sh w) {i : Nat} (hi : i < 10) : zln w 49 i := h.ln (by decide) (Nat.lt_of_lt_of_le hi (by decide +kernel)) (by omega)
theorem A_50 {w : zH} (h : Sh w) {i : Nat} (hi : i < 10) : zai w 50 100 (nI i) = some (ga w 50 i) := zShA h (by decide) (by decide +kernel) (by decide) (by decide +kernel) (Nat.lt_of_lt_of_le hi (by decide +kernel)) (by decide +kernel)
theorem N_50 {w : zH} (h : Sh w) {i : Nat} (hi : i < 10) : zin? w 50 100 (nI i) = True := zShN h (by decide) (by decide +kernel) (Nat.lt_of_lt_of_le hi (by decide +kernel)) (by decide +kernel)
theorem L_50 {w : zH} (h : Sh w) {i : Nat} (hi : i < 10) : zln w 50 i := h.ln (by decide) (Nat.lt_of_lt_of_le hi (by decide +kernel)) (by omega)
theorem A_51 {w : zH} (h : Sh w) {i : Nat} (hi : i < 10) : zai w 51 100 (nI i) = some (ga w 51 i) := zShA h (by decide) (by decide +kernel) (by decide) (by decide +kernel) (Nat.lt_of_lt_of_le hi (by decide +kernel)) (by decide +kernel)
theorem N_51 {w : zH} (h : Sh w) {i : Nat} (hi : i < 10) : zin? w 51 100 (nI i) = True := zShN h (by decide) (by decide +kernel) (Nat.lt_of_lt_of_le hi (by decide +kernel)) (by decide +kernel)
theorem L_51 {w : zH} (h : Sh w) {i : Nat} (hi : i < 10) : zln w 51 i := h.ln (by decide) (Nat.lt_of_lt_of_le hi (by decide +kernel)) (by omega)
theorem A_52 {w : zH} (h : Sh w) {i : Nat} (hi : i < 10) : zai w 52 100 (nI i) = some (ga w 52 i) := zShA h (by decide) (by decide +kernel) (by decide) (by decide +kernel) (Nat.lt_of_lt_of_le hi (by decide +kernel)) (by decide +kernel)
theorem N_52 {w : zH} (h : Sh w) {i : Nat} (hi : i < 10) : zin? w 52 100 (nI i) = True := zShN h (by decide) (by decide +kernel) (Nat.lt_of_lt_of_le hi (by decide +kernel)) (by decide +kernel)
theorem L_52 {w : zH} (h : Sh w) {i : Nat} (hi : i < 10) : zln w 52 i := h.ln (by decide) (Nat.lt_of_lt_of_le hi (by decide +kernel)) (by omega)
theorem A_53 {w : zH} (h : Sh w) {i : Nat} (hi : i < 10) : zai w 53 100 (nI i) = some (ga w 53 i) := zShA h (by decide) (by decide +kernel) (by decide) (by decide +kernel) (Nat.lt_of_lt_of_le hi (by decide +kernel)) (by decide +kernel)
theorem N_53 {w : zH} (h : Sh w) {i : Nat} (hi : i < 10) : zin? w 53 100 (nI i) = True := zShN h (by decide) (by decide +kernel) (Nat.lt_of_lt_of_le hi (by decide +kernel)) (by decide +kernel)
theorem L_53 {w : zH} (h : Sh w) {i : Nat} (hi : i < 10) : zln w 53 i := h.ln (by decide) (Nat.lt_of_lt_of_le hi (by decide +kernel)) (by omega)
theorem A_54 {w : zH} (h : Sh w) {i : Nat} (hi : i < 80) : zai w 54 100 (nI i) = some (ga w 54 i) := zShA h (by decide) (by decide +kernel) (by decide) (by decide +kernel) (Nat.lt_of_lt_of_le hi (by decide +kernel)) (by decide +kernel)
theorem N_54 {w : zH} (h : Sh w) {i : Nat} (hi : i < 80) : zin? w 54 100 (nI i) = True := zShN h (by decide) (by decide +kernel) (Nat.lt_of_lt_of_le hi (by decide +kernel)) (by decide +kernel)
theorem L_54 {w : zH} (h : Sh w) {i : Nat} (hi : i < 80) : zln w 54 i := h.ln (by decide) (Nat.lt_of_lt_of_le hi (by decide +kernel)) (by omega)
theorem A_55 {w : zH} (h : Sh w) {i : Nat} (hi : i < 8) : zai w 55 100 (nI i) = some (ga w 55 i) := zShA h (by decide) (by decide +kernel) (by decide) (by decide +kernel) (Nat.lt_of_lt_of_le hi (by decide +kernel)) (by decide +kernel)
theorem N_55 {w : zH} (h : Sh w) {i : Nat} (hi : i < 8) : zin? w 55 100 (nI i) = True := zShN h (by decide) (by decide +kernel) (Nat.lt_of_lt_of_le hi (by decide +kernel)) (by decide +kernel)
theorem L_55 {w : zH} (h : Sh w) {i : Nat} (hi : i < 8) : zln w 55 i := h.ln (by decide) (Nat.lt_of_lt_of_le hi (by decide +kernel)) (by omega)
theorem A_56 {w : zH} (h : Sh w) {i : Nat} (hi : i < 256) : zai w 56 100 (nI i) = some (ga w 56 i) := zShA h (by decide) (by decide +kernel) (by decide) (by decide +kernel) (Nat.lt_of_lt_of_le hi (by decide +kernel)) (by decide +kernel)
theorem N_56 {w : zH} (h : Sh w) {i : Nat} (hi : i < 256) : zin? w 56 100 (nI i) = True := zShN h (by decide) (by decide +kernel) (Nat.lt_of_lt_of_le hi (by decide +kernel)) (by decide +kernel)
theorem L_56 {w : zH} (h : Sh w) {i : Nat} (hi : i < 256) : zln w 56 i := h.ln (by decide) (Nat.lt_of_lt_of_le hi (by decide +kernel)) (by omega)
theorem A_57 {w : zH} (h : Sh w) {i : Nat} (hi : i < 20) : zai w 57 100 (nI i) = some (ga w 57 i) := zShA h (by decide) (by decide +kernel) (by decide) (by decide +kernel) (Nat.lt_of_lt_of_le hi (by decide +kernel)) (by decide +kernel)
theorem N_57 {w : zH} (h : Sh w) {i : Nat} (hi : i < 20) : zin? w 57 100 (nI i) = True := zShN h (by decide) (by decide +kernel) (Nat.lt_of_lt_of_le hi (by decide +kernel)) (by decide +kernel)
theorem L_57 {w : zH} (h : Sh w) {i : Nat} (hi : i < 20) : zln w 57 i := h.ln (by decide) (Nat.lt_of_lt_of_le hi (by decide +kernel)) (by omega)
theorem A_58 {w : zH} (h : Sh w) {i : Nat} (hi : i < 20) : zai w 58 100 (nI i) = some (ga w 58 i) := zShA h (by decide) (by decide +kernel) (by decide) (by decide +kernel) (Nat.lt_of_lt_of_le hi (by decide +kernel)) (by decide +kernel)
theorem N_58 {w : zH} (h : Sh w) {i : Nat} (hi : i < 20) : zin? w 58 100 (nI i) = True := zShN h (by decide) (by decide +kernel) (Nat.lt_of_lt_of_le hi (by decide +kernel)) (by decide +kernel)
theorem L_58 {w : zH} (h : Sh w) {i : Nat} (hi : i < 20) : zln w 58 i := h.ln (by decide) (Nat.lt_of_lt_of_le hi (by decide +kernel)) (by omega)
theorem A_59 {w : zH} (h : Sh w) {i : Nat} (hi : i < 20) : zai w 59 100 (nI i) = some (ga w 59 i) := zShA h (by decide) (by decide +kernel) (by decide) (by decide +kernel) (Nat.lt_of_lt_of_le hi (by decide +kernel)) (by decide +kernel)
theorem N_59 {w : zH} (h : Sh w) {i : Nat} (hi : i < 20) : zin? w 59 100 (nI i) = True := zShN h (by decide) (by decide +kernel) (Nat.lt_of_lt_of_le hi (by decide +kernel)) (by decide +kernel)
theorem L_59 {w : zH} (h : Sh w) {i : Nat} (hi : i < 20) : zln w 59 i := h.ln (by decide) (Nat.lt_of_lt_of_le hi (by decide +kernel)) (by omega)
theorem A_60 {w : zH} (h : Sh w) {i : Nat} (hi : i < 16) : zai w 60 100 (nI i) = some (ga w 60 i) := zShA h (by decide) (by decide +kernel) (by decide) (by decide +kernel) (Nat.lt_of_lt_of_le hi (by decide +kernel)) (by decide +kernel)
theorem N_60 {w : zH} (h : Sh w) {i : Nat} (hi : i < 16) : zin? w 60 100 (nI i) = True := zShN h (by decide) (by decide +kernel) (Nat.lt_of_lt_of_le hi (by decide +kernel)) (by decide +kernel)
theorem L_60 {w : zH} (h : Sh w) {i : Nat} (hi : i < 16) : zln w 60 i := h.ln (by decide) (Nat.lt_of_lt_of_le hi (by decide +kernel)) (by omega)
theorem A_61 {w : zH} (h : Sh w) {i : Nat} (hi : i < 16) : zai w 61 100 (nI i) = some (ga w 61 i) := zShA h (by decide) (by decide +kernel) (by decide) (by decide +kernel) (Nat.lt_of_lt_of_le hi (by decide +kernel)) (by decide +kernel)
theorem N_61 {w : zH} (h : Sh w) {i : Nat} (hi : i < 16) : zin? w 61 100 (nI i) = True := zShN h (by decide) (by decide +kernel) (Nat.lt_of_lt_of_le hi (by decide +kernel)) (by decide +kernel)
theorem L_61 {w : zH} (h : Sh w) {i : Nat} (hi : i < 16) : zln w 61 i := h.ln (by decide) (Nat.lt_of_lt_of_le hi (by decide +kernel)) (by omega)
theorem A_62 {w : zH} (h : Sh w) {i : Nat} (hi : i < 16) : zai w 62 100 (nI i) = some (ga w 62 i) := zShA h (by decide) (by decide +kernel) (by decide) (by decide +kernel) (Nat.lt_of_lt_of_le hi (by decide +kernel)) (by decide +kernel)
theorem N_62 {w : zH} (h : Sh w) {i : Nat} (hi : i < 16) : zin? w 62 100 (nI i) = True := zShN h (by decide) (by decide +kernel) (Nat.lt_of_lt_of_le hi (by decide +kernel)) (by decide +kernel)
theorem L_62 {w : zH} (h : Sh w) {i : Nat} (hi : i < 16) : zln w 62 i := h.ln (by decide) (Nat.lt_of_lt_of_le hi (by decide +kernel)) (by omega)
theorem A_63 {w : zH} (h : Sh w) {i : Nat} (hi : i < 12) : zai w 63 100 (nI i) = some (ga w 63 i) := zShA h (by decide) (by decide +kernel) (by decide) (by decide +kernel) (Nat.lt_of_lt_of_le hi (by decide +kernel)) (by decide +kernel)
theorem N_63 {w : zH} (h : Sh w) {i : Nat} (hi : i < 12) : zin? w 63 100 (nI i) = True := zShN h (by decide) (by decide +kernel) (Nat.lt_of_lt_of_le hi (by decide +kernel)) (by decide +kernel)
theorem L_63 {w : zH} (h : Sh w) {i : Nat} (hi : i < 12) : zln w 63 i := h.ln (by decide) (Nat.lt_of_lt_of_le hi (by decide +kernel)) (by omega)
theorem A_64 {w : zH} (h : Sh w) {i : Nat} (hi : i < 16) : zai w 64 100 (nI i) = some (ga w 64 i) := zShA h (by decide) (by decide +kernel) (by decide) (by decide +kernel) (Nat.lt_of_lt_of_le hi (by decide +kernel)) (by decide +kernel)
theorem N_64 {w : zH} (h : Sh w) {i : Nat} (hi : i < 16) : zin? w 64 100 (nI i) = True := zShN h (by decide) (by decide +kernel) (Nat.lt_of_lt_of_le hi (by decide +kernel)) (by decide +kernel)
theorem L_64 {w : zH} (h : Sh w) {i : Nat} (hi : i < 16) : zln w 64 i := h.ln (by decide) (Nat.lt_of_lt_of_le hi (by decide +kernel)) (by omega)
theorem Gt_1 {n : Nat} (h : n < 1) : ((1 : Int32) ≤ nI n) = False := eq_false (nI_ge (b := 1) h (by decide))
theorem Lt_1 {n : Nat} (h : n < 1) : (nI n < (1 : Int32)) = True := eq_true (nI_lt (b := 1) h (by decide))
theorem Ne_1 {n : Nat} (h : n < 1) : (nI n = (1 : Int32)) = False := eq_false (fun q => by have := (nI_eq (b := 1) (Nat.lt_of_lt_of_le h (by decide)) (by decide)).mp q; omega)
theorem Gt_2 {n : Nat} (h : n < 2) : ((2 : Int32) ≤ nI n) = False := eq_false (nI_ge (b := 2) h (by decide))
theorem Lt_2 {n : Nat} (h : n < 2) : (nI n < (2 : Int32)) = True := eq_true (nI_lt (b := 2) h (by decide))
theorem Ne_2 {n : Nat} (h : n < 2) : (nI n = (2 : Int32)) = False := eq_false (fun q => by have := (nI_eq (b := 2) (Nat.lt_of_lt_of_le h (by decide)) (by decide)).mp q; omega)
theorem Gt_3 {n : Nat} (h : n < 3) : ((3 : Int32) ≤ nI n) = False := eq_false (nI_ge (b := 3) h (by decide))
theorem Lt_3 {n : Nat} (h : n < 3) : (nI n < (3 : Int32)) = True := eq_true (nI_lt (b := 3) h (by decide))
theorem Ne_3 {n : Nat} (h : n < 3) : (nI n = (3 : Int32)) = False := eq_false (fun q => by have := (nI_eq (b := 3) (Nat.lt_of_lt_of_le h (by decide)) (by decide)).mp q; omega)
theorem Gt_4 {n : Nat} (h : n < 4) : ((4 : Int32) ≤ nI n) = False := eq_false (nI_ge (b := 4) h (by decide))
theorem Lt_4 {n : Nat} (h : n < 4) : (nI n < (4 : Int32)) = True := eq_true (nI_lt (b := 4) h (by decide))
theorem Ne_4 {n : Nat} (h : n < 4) : (nI n = (4 : Int32)) = False := eq_false (fun q => by have := (nI_eq (b := 4) (Nat.lt_of_lt_of_le h (by decide)) (by decide)).mp q; omega)
theorem Gt_5 {n : Nat} (h : n < 5) : ((5 : Int32) ≤ nI n) = False := eq_false (nI_ge (b := 5) h (by decide))
theorem Lt_5 {n : Nat} (h : n < 5) : (nI n < (5 : Int32)) = True := eq_true (nI_lt (b := 5) h (by decide))
theorem Ne_5 {n : Nat} (h : n < 5) : (nI n = (5 : Int32)) = False := eq_false (fun q => by have := (nI_eq (b := 5) (Nat.lt_of_lt_of_le h (by decide)) (by decide)).mp q; omega)
theorem Gt_6 {n : Nat} (h : n < 6) : ((6 : Int32) ≤ nI n) = False := eq_false (nI_ge (b := 6) h (by decide))
theorem Lt_6 {n : Nat} (h : n < 6) : (nI n < (6 : Int32)) = True := eq_true (nI_lt (b := 6) h (by decide))
theorem Ne_6 {n : Nat} (h : n < 6) : (nI n = (6 : Int32)) = False := eq_false (fun q => by have := (nI_eq (b := 6) (Nat.lt_of_lt_of_le h (by decide)) (by decide)).mp q; omega)
theorem Gt_7 {n : Nat} (h : n < 7) : ((7 : Int32) ≤ nI n) = False := eq_false (nI_ge (b := 7) h (by decide))
theorem Lt_7 {n : Nat} (h : n < 7) : (nI n < (7 : Int32)) = True := eq_true (nI_lt (b := 7) h (by decide))
theorem Ne_7 {n : Nat} (h : n < 7) : (nI n = (7 : Int32)) = False := eq_false (fun q => by have := (nI_eq (b := 7) (Nat.lt_of_lt_of_le h (by decide)) (by decide)).mp q; omega)
theorem Gt_8 {n : Nat} (h : n < 8) : ((8 : Int32) ≤ nI n) = False := eq_false (nI_ge (b := 8) h (by decide))
theorem Lt_8 {n : Nat} (h : n < 8) : (nI n < (8 : Int32)) = True := eq_true (nI_lt (b := 8) h (by decide))
theorem Ne_8 {n : Nat} (h : n < 8) : (nI n = (8 : Int32)) = False := eq_false (fun q => by have := (nI_eq (b := 8) (Nat.lt_of_lt_of_le h (by decide)) (by decide)).mp q; omega)
theorem Gt_9 {n : Nat} (h : n < 9) : ((9 : Int32) ≤ nI n) = False := eq_false (nI_ge (b := 9) h (by decide))
theorem Lt_9 {n : Nat} (h : n < 9) : (nI n < (9 : Int32)) = True := eq_true (nI_lt (b := 9) h (by decide))
theorem Ne_9 {n : Nat} (h : n < 9) : (nI n = (9 : Int32)) = False := eq_false (fun q => by have := (nI_eq (b := 9) (Nat.lt_of_lt_of_le h (by decide)) (by decide)).mp q; omega)
theorem Gt_10 {n : Nat} (h : n < 10) : ((10 : Int32) ≤ nI n) = False := eq_false (nI_ge (b := 10) h (by decide))
theorem Lt_10 {n : Nat} (h : n < 10) : (nI n < (10 : Int32)) = True := eq_true (nI_lt (b := 10) h (by decide))
theorem Ne_10 {n : Nat} (h : n < 10) : (nI n = (10 : Int32)) = False := eq_false (fun q => by have := (nI_eq (b := 10) (Nat.lt_of_lt_of_le h (by decide)) (by decide)).mp q; omega)
theorem Gt_11 {n : Nat} (h : n < 11) : ((11 : Int32) ≤ nI n) = False := eq_false (nI_ge (b := 11) h (by decide))
theorem Lt_11 {n : Nat} (h : n < 11) : (nI n < (11 : Int32)) = True := eq_true (nI_lt (b := 11) h (by decide))
theorem Ne_11 {n : Nat} (h : n < 11) : (nI n = (11 : Int32)) = False := eq_false (fun q => by have := (nI_eq (b := 11) (Nat.lt_of_lt_of_le h (by decide)) (by decide)).mp q; omega)
theorem Gt_12 {n : Nat} (h : n < 12) : ((12 : Int32) ≤ nI n) = False := eq_false (nI_ge (b := 12) h (by decide))
theorem Lt_12 {n : Nat} (h : n < 12) : (nI n < (12 : Int32)) = True := eq_true (nI_lt (b := 12) h (by decide))
theorem Ne_12 {n : Nat} (h : n < 12) : (nI n = (12 : Int32)) = False := eq_false (fun q => by have := (nI_eq (b := 12) (Nat.lt_of_lt_of_le h (by decide)) (by decide)).mp q; omega)
theorem Gt_15 {n : Nat} (h : n < 15) : ((15 : Int32) ≤ nI n) = False := eq_false (nI_ge (b := 15) h (by decide))
theorem Lt_15 {n : Nat} (h : n < 15) : (nI n < (15 : Int32)) = True := eq_true (nI_lt (b := 15) h (by decide))
theorem Ne_15 {n : Nat} (h : n < 15) : (nI n = (15 : Int32)) = False := eq_false (fun q => by have := (nI_eq (b := 15) (Nat.lt_of_lt_of_le h (by decide)) (by decide)).mp q; omega)
theorem Gt_16 {n : Nat} (h : n < 16) : ((16 : Int32) ≤ nI n) = False := eq_false (nI_ge (b := 16) h (by decide))
theorem Lt_16 {n : Nat} (h : n < 16) : (nI n < (16 : Int32)) = True := eq_true (nI_lt (b := 16) h (by decide))
theorem Ne_16 {n : Nat} (h : n < 16) : (nI n = (16 : Int32)) = False := eq_false (fun q => by have := (nI_eq (b := 16) (Nat.lt_of_lt_of_le h (by decide)) (by decide)).mp q; omega)
theorem Gt_20 {n : Nat} (h : n < 20) : ((20 : Int32) ≤ nI n) = False := eq_false (nI_ge (b := 20) h (by decide))
theorem Lt_20 {n : Nat} (h : n < 20) : (nI n < (20 : Int32)) = True := eq_true (nI_lt (b := 20) h (by decide))
theorem Ne_20 {n : Nat} (h : n < 20) : (nI n = (20 : Int32)) = False := eq_false (fun q => by have := (nI_eq (b := 20) (Nat.lt_of_lt_of_le h (by decide)) (by decide)).mp q; omega)
theorem Gt_24 {n : Nat} (h : n < 24) : ((24 : Int32) ≤ nI n) = False := eq_false (nI_ge (b := 24) h (by decide))
theorem Lt_24 {n : Nat} (h : n < 24) : (nI n < (24 : Int32)) = True := eq_true (nI_lt (b := 24) h (by decide))
theorem Ne_24 {n : Nat} (h : n < 24) : (nI n = (24 : Int32)) = False := eq_false (fun q => by have := (nI_eq (b := 24) (Nat.lt_of_lt_of_le h (by decide)) (by decide)).mp q; omega)
theorem Gt_30 {n : Nat} (h : n < 30) : ((30 : Int32) ≤ nI n) = False := eq_false (nI_ge (b := 30) h (by decide))
theorem Lt_30 {n : Nat} (h : n < 30) : (nI n < (30 : Int32)) = True := eq_true (nI_lt (b := 30) h (by decide))
theorem Ne_30 {n : Nat} (h : n < 30) : (nI n = (30 : Int32)) = False := eq_false (fun q => by have := (nI_eq (b := 30) (Nat.lt_of_lt_of_le h (by decide)) (by decide)).mp q; omega)
theorem Gt_100 {n : Nat} (h : n < 100) : ((100 : Int32) ≤ nI n) = False := eq_false (nI_ge (b := 100) h (by decide))
theorem Lt_100 {n : Nat} (h : n < 100) : (nI n < (100 : Int32)) = True := eq_true (nI_lt (b := 100) h (by decide))
theorem Ne_100 {n : Nat} (h : n < 100) : (nI n = (100 : Int32)) = False := eq_false (fun q => by have := (nI_eq (b := 100) (Nat.lt_of_lt_of_le h (by decide)) (by decide)).mp q; omega)
theorem Gt_256 {n : Nat} (h : n < 256) : ((256 : Int32) ≤ nI n) = False := eq_false (nI_ge (b := 256) h (by decide))
theorem Lt_256 {n : Nat} (h : n < 256) : (nI n < (256 : Int32)) = True := eq_true (nI_lt (b := 256) h (by decide))
theorem Ne_256 {n : Nat} (h : n < 256) : (nI n = (256 : Int32)) = False := eq_false (fun q => by have := (nI_eq (b := 256) (Nat.lt_of_lt_of_le h (by decide)) (by decide)).mp q; omega)
theorem Gt_500 {n : Nat} (h : n < 500) : ((500 : Int32) ≤ nI n) = False := eq_false (nI_ge (b := 500) h (by decide))
theorem Lt_500 {n : Nat} (h : n < 500) : (nI n < (500 : Int32)) = True := eq_true (nI_lt (b := 500) h (by decide))
theorem Ne_500 {n : Nat} (h : n < 500) : (nI n = (500 : Int32)) = False := eq_false (fun q => by have := (nI_eq (b := 500) (Nat.lt_of_lt_of_le h (by decide)) (by decide)).mp q; omega)
theorem q_0_1 : ((0 : Int32) = 1) = False := by decide
theorem q_0_2 : ((0 : Int32) = 2) = False := by decide
theorem q_0_3 : ((0 : Int32) = 3) = False := by decide
theorem q_0_4 : ((0 : Int32) = 4) = False := by decide
theorem q_0_5 : ((0 : Int32) = 5) = False := by decide
theorem q_0_6 : ((0 : Int32) = 6) = False := by decide
theorem q_0_7 : ((0 : Int32) = 7) = False := by decide
theorem q_0_8 : ((0 : Int32) = 8) = False := by decide
theorem q_0_9 : ((0 : Int32) = 9) = False := by decide
theorem q_1_0 : ((1 : Int32) = 0) = False := by decide
theorem q_1_2 : ((1 : Int32) = 2) = False := by decide
theorem q_1_3 : ((1 : Int32) = 3) = False := by decide
theorem q_1_4 : ((1 : Int32) = 4) = False := by decide
theorem q_1_5 : ((1 : Int32) = 5) = False := by decide
theorem q_1_6 : ((1 : Int32) = 6) = False := by decide
theorem q_1_7 : ((1 : Int32) = 7) = False := by decide
theorem q_1_8 : ((1 : Int32) = 8) = False := by decide
theorem q_1_9 : ((1 : Int32) = 9) = False := by decide
theorem q_2_0 : ((2 : Int32) = 0) = False := by decide
theorem q_2_1 : ((2 : Int32) = 1) = False := by decide
theorem q_2_3 : ((2 : Int32) = 3) = False := by decide
theorem q_2_4 : ((2 : Int32) = 4) = False := by decide
theorem q_2_5 : ((2 : Int32) = 5) = False := by decide
theorem q_2_6 : ((2 : Int32) = 6) = False := by decide
theorem q_2_7 : ((2 : Int32) = 7) = False := by decide
theorem q_2_8 : ((2 : Int32) = 8) = False := by decide
theorem q_2_9 : ((2 : Int32) = 9) = False := by decide
theorem q_3_0 : ((3 : Int32) = 0) = False := by decide
theorem q_3_1 : ((3 : Int32) = 1) = False := by decide
theorem q_3_2 : ((3 : Int32) = 2) = False := by decide
theorem q_3_4 : ((3 : Int32) = 4) = False := by decide
theorem q_3_5 : ((3 : Int32) = 5) = False := by decide
theorem q_3_6 : ((3 : Int32) = 6) = False := by decide
theorem q_3_7 : ((3 : Int32) = 7) = False := by decide
theorem q_3_8 : ((3 : Int32) = 8) = False := by decide
theorem q_3_9 : ((3 : Int32) = 9) = False := by decide
theorem q_4_0 : ((4 : Int32) = 0) = False := by decide
theorem q_4_1 : ((4 : Int32) = 1) = False := by decide
theorem q_4_2 : ((4 : Int32) = 2) = False := by decide
theorem q_4_3 : ((4 : Int32) = 3) = False := by decide
theorem q_4_5 : ((4 : Int32) = 5) = False := by decide
theorem q_4_6 : ((4 : Int32) = 6) = False := by decide
theorem q_4_7 : ((4 : Int32) = 7) = False := by decide
theorem q_4_8 : ((4 : Int32) = 8) = False := by decide
theorem q_4_9 : ((4 : Int32) = 9) = False := by decide
theorem q_5_0 : ((5 : Int32) = 0) = False := by decide
theorem q_5_1 : ((5 : Int32) = 1) = False := by decide
theorem q_5_2 : ((5 : Int32) = 2) = False := by decide
theorem q_5_3 : ((5 : Int32) = 3) = False := by decide
theorem q_5_4 : ((5 : Int32) = 4) = False := by decide
theorem q_5_6 : ((5 : Int32) = 6) = False := by decide
theorem q_5_7 : ((5 : Int32) = 7) = False := by decide
theorem q_5_8 : ((5 : Int32) = 8) = False := by decide
theorem q_5_9 : ((5 : Int32) = 9) = False := by decide
theorem q_6_0 : ((6 : Int32) = 0) = False := by decide
theorem q_6_1 : ((6 : Int32) = 1) = False := by decide
theorem q_6_2 : ((6 : Int32) = 2) = False := by decide
theorem q_6_3 : ((6 : Int32) = 3) = False := by decide
theorem q_6_4 : ((6 : Int32) = 4) = False := by decide
theorem q_6_5 : ((6 : Int32) = 5) = False := by decide
theorem q_6_7 : ((6 : Int32) = 7) = False := by decide
theorem q_6_8 : ((6 : Int32) = 8) = False := by decide
theorem q_6_9 : ((6 : Int32) = 9) = False := by decide
theorem q_7_0 : ((7 : Int32) = 0) = False := by decide
theorem q_7_1 : ((7 : Int32) = 1) = False := by decide
theorem q_7_2 : ((7 : Int32) = 2) = False := by decide
theorem q_7_3 : ((7 : Int32) = 3) = False := by decide
theorem q_7_4 : ((7 : Int32) = 4) = False := by decide
theorem q_7_5 : ((7 : Int32) = 5) = False := by decide
theorem q_7_6 : ((7 : Int32) = 6) = False := by decide
theorem q_7_8 : ((7 : Int32) = 8) = False := by decide
theorem q_7_9 : ((7 : Int32) = 9) = False := by decide
theorem q_8_0 : ((8 : Int32) = 0) = False := by decide
theorem q_8_1 : ((8 : Int32) = 1) = False := by decide
theorem q_8_2 : ((8 : Int32) = 2) = False := by decide
theorem q_8_3 : ((8 : Int32) = 3) = False := by decide
theorem q_8_4 : ((8 : Int32) = 4) = False := by decide
theorem q_8_5 : ((8 : Int32) = 5) = False := by decide
theorem q_8_6 : ((8 : Int32) = 6) = False := by decide
theorem q_8_7 : ((8 : Int32) = 7) = False := by decide
theorem q_8_9 : ((8 : Int32) = 9) = False := by decide
theorem q_9_0 : ((9 : Int32) = 0) = False := by decide
theorem q_9_1 : ((9 : Int32) = 1) = False := by decide
theorem q_9_2 : ((9 : Int32) = 2) = False := by decide
theorem q_9_3 : ((9 : Int32) = 3) = False := by decide
theorem q_9_4 : ((9 : Int32) = 4) = False := by decide
theorem q_9_5 : ((9 : Int32) = 5) = False := by decide
theorem q_9_6 : ((9 : Int32) = 6) = False := by decide
theorem q_9_7 : ((9 : Int32) = 7) = False := by decide
theorem q_9_8 : ((9 : Int32) = 8) = False := by decide
theorem zlN0 {n : Nat} (h : n < 2 ^ 31) : (nI n < 0) = False := eq_false (nI_pos h)
theorem zNone {n : Nat} (h : n < 2 ^ 31) : (nI n = -1000000) = False := eq_false (fun q => nI_pos h (by rw [q]; decide))
theorem zn16 {n N : Nat} (h : n < N) (hN : N ≤ 1000) : ¬ nI N ≤ nI n := nI_ge (by omega) (by omega)
theorem znN {n N : Nat} (h : n < N) (hN : N ≤ 1000) : ¬ nI n = nI N := fun q => by rw [nI_eq (by omega) (by omega)] at q; omega
theorem IL_new {w w2 : zH} {n : Nat} (h : IL w) (hS : zSam w w2 [] []) (hn : gi w 2 301 = nI n) (hnN : n < 30) (h0 : gi w2 2 301 = nI (n + 1)) (h35 : gi w2 35 1206 = nI (n + 1)) (x0 x1 x2 x3 : Int32) (hb : 0 ≤ x2 ∧ 0 ≤ x1 ∧ x1 ≤ 3)  (h39 : ∀ i, ga w2 39 i = if n = i then x0 else ga w 39 i) (h40 : ∀ i, ga w2 40 i = if n = i then x1 else ga w 40 i) (h41 : ∀ i, ga w2 41 i = if n = i then x2 else ga w 41 i) (h42 : ∀ i, ga w2 42 i = if n = i then x3 else ga w 42 i) (h4 : ∀ i, gr w2 3 i = if n = i then .ref w.length else gr w 3 i) (hw : 65 ≤ w.length) (hz : w.length < zX) (hc : w2[w.length]? = some (5, [.int x0, .int x1, .int x2, .int x3])) : IL w2 := by
  obtain ⟨m, m1, m2, m3, m4⟩ := h
  have : m = n := by
    rw [m2] at hn
    exact (nI_eq (by omega) (by omega)).mp hn
  subst this
  refine ⟨m + 1, by omega, h0, h35, fun i hi => ?_⟩
  rw [h39, h40, h41, h42, h4]
  by_cases e : m = i
  · subst e
    simp only [if_true]
    have hr : zr none w2 w.length = some (5, [.int x0, .int x1, .int x2, .int x3]) := by
      unfold zr
      rw [if_pos hz, hc]
    refine ⟨hb, w.length, hw, hz, rfl, ⟨_, hr⟩, ?_, ?_, ?_, ?_⟩ <;> (unfold zf; rw [hr]; rfl)
  · simp only [if_neg e]
    obtain ⟨g1, a, g2, g3, g4, g5, g6⟩ := m4 i (by omega)
    have q := hS.2.2.1 a g2 (zis_lt g5 g3)
    refine ⟨g1, a, g2, g3, g4, by rw [zis_eq q]; exact g5, ?_⟩
    simp only [zf_eq q]
    exact g6
theorem IP_new {w w2 : zH} {n : Nat} (h : IP w) (hS : zSam w w2 [] []) (hn : gi w 0 1103 = nI n) (hnN : n < 16) (h0 : gi w2 0 1103 = nI (n + 1)) (h35 : gi w2 35 1211 = nI (n + 1)) (x0 x1 x2 x3 : Int32) (hb : 0 ≤ x0 ∧ x0 ≤ 5 ∧ 0 ≤ x1 ∧ x1 ≤ 4 ∧ 1000 ≤ x2 ∧ x2 ≤ 1999 ∧ 0 ≤ x3 ∧ x3 ≤ 10000)  (h43 : ∀ i, ga w2 43 i = if n = i then x0 else ga w 43 i) (h44 : ∀ i, ga w2 44 i = if n = i then x1 else ga w 44 i) (h45 : ∀ i, ga w2 45 i = if n = i then x2 else ga w 45 i) (h46 : ∀ i, ga w2 46 i = if n = i then x3 else ga w 46 i) (h4 : ∀ i, gr w2 4 i = if n = i then .ref w.length else gr w 4 i) (hw : 65 ≤ w.length) (hz : w.length < zX) (hc : w2[w.length]? = some (7, [.int x0, .int x1, .int x2, .int x3])) : IP w2 := by
  obtain ⟨m, m1, m2, m3, m4⟩ := h
  have : m = n := by
    rw [m2] at hn
    exact (nI_eq (by omega) (by omega)).mp hn
  subst this
  refine ⟨m + 1, by omega, h0, h35, fun i hi => ?_⟩
  rw [h43, h44, h45, h46, h4]
  by_cases e : m = i
  · subst e
    simp only [if_true]
    have hr : zr none w2 w.length = some (7, [.int x0, .int x1, .int x2, .int x3]) := by
      unfold zr
      rw [if_pos hz, hc]
    refine ⟨hb, w.length, hw, hz, rfl, ⟨_, hr⟩, ?_, ?_, ?_, ?_⟩ <;> (unfold zf; rw [hr]; rfl)
  · simp only [if_neg e]
    obtain ⟨g1, a, g2, g3, g4, g5, g6⟩ := m4 i (by omega)
    have q := hS.2.2.1 a g2 (zis_lt g5 g3)
    refine ⟨g1, a, g2, g3, g4, by rw [zis_eq q]; exact g5, ?_⟩
    simp only [zf_eq q]
    exact g6
theorem IW_new {w w2 : zH} {n : Nat} (h : IW w) (hS : zSam w w2 [] []) (hn : gi w 0 1112 = nI n) (hnN : n < 20) (h0 : gi w2 0 1112 = nI (n + 1)) (h35 : gi w2 35 1240 = nI (n + 1)) (x0 x1 x2 : Int32) (hb : 0 ≤ x0 ∧ x0 < gi w 35 1211 ∧ 0 ≤ x2 ∧ x2 ≤ 99999) (h1211 : gi w2 35 1211 = gi w 35 1211) (h57 : ∀ i, ga w2 57 i = if n = i then x0 else ga w 57 i) (h58 : ∀ i, ga w2 58 i = if n = i then x1 else ga w 58 i) (h59 : ∀ i, ga w2 59 i = if n = i then x2 else ga w 59 i) (h4 : ∀ i, gr w2 12 i = if n = i then .ref w.length else gr w 12 i) (hw : 65 ≤ w.length) (hz : w.length < zX) (hc : w2[w.length]? = some (10, [.int x0, .int x1, .int x2])) : IW w2 := by
  obtain ⟨m, m1, m2, m3, m4⟩ := h
  have : m = n := by
    rw [m2] at hn
    exact (nI_eq (by omega) (by omega)).mp hn
  subst this
  refine ⟨m + 1, by omega, h0, h35, fun i hi => ?_⟩
  rw [h57, h58, h59, h4, h1211]
  by_cases e : m = i
  · subst e
    simp only [if_true]
    have hr : zr none w2 w.length = some (10, [.int x0, .int x1, .int x2]) := by
      unfold zr
      rw [if_pos hz, hc]
    refine ⟨hb, w.length, hw, hz, rfl, ⟨_, hr⟩, ?_, ?_, ?_⟩ <;> (unfold zf; rw [hr]; rfl)
  · simp only [if_neg e]
    obtain ⟨g1, a, g2, g3, g4, g5, g6⟩ := m4 i (by omega)
    have q := hS.2.2.1 a g2 (zis_lt g5 g3)
    refine ⟨g1, a, g2, g3, g4, by rw [zis_eq q]; exact g5, ?_⟩
    simp only [zf_eq q]
    exact g6
theorem IW_up {w w' : zH} (h : IW w) (hs : zSam w w' [(0, 1112), (35, 1240)] IW_a) (hg : gi w 35 1211 ≤ gi w' 35 1211) : IW w' := by
  obtain ⟨s1, s2, s3, -⟩ := hs
  have g1 : gi w' 0 1112 = gi w 0 1112 := s1 (0, 1112) (by decide)
  have g2 : gi w' 35 1240 = gi w 35 1240 := s1 (35, 1240) (by decide)
  have b57 : ∀ i : Nat, ga w' 57 i = ga w 57 i := ga_eq (s2 57 (by decide))
  have b58 : ∀ i : Nat, ga w' 58 i = ga w 58 i := ga_eq (s2 58 (by decide))
  have b59 : ∀ i : Nat, ga w' 59 i = ga w 59 i := ga_eq (s2 59 (by decide))
  have r12 : ∀ i : Nat, gr w' 12 i = gr w 12 i := gr_eq (s2 12 (by decide))
  obtain ⟨n, h1, h2, h3, h4⟩ := h
  refine ⟨n, h1, by rw [g1]; exact h2, by rw [g2]; exact h3, fun i hi => ?_⟩
  obtain ⟨h5, a, h6, h7, h8, h9, h10⟩ := h4 i hi
  have e := s3 a h6 (zis_lt h9 h7)
  simp only [b57, b58, b59, r12]
  refine ⟨⟨h5.1, Int32.lt_of_lt_of_le h5.2.1 hg, h5.2.2⟩, a, h6, h7, h8, by rw [zis_eq e]; exact h9, ?_⟩
  simp only [zf_eq e]
  exact h10
