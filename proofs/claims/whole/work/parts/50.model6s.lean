/-- the place pl of the reference's table holds the picture Q -/
def tabI (tt : Nat → Int32) (pl : Nat) (Q : Pc) : Prop := agG Q 0 (fun k => tt (128 * pl + k)) (fun k => tt (128 * pl + 64 + k))
theorem tabI_ag {tt gr mk : Nat → Int32} {pl : Nat} {Q : Pc} (h8 : Q.1 ≤ 8) (h9 : Q.2.1 ≤ 8) (h : tabI tt pl Q) (hg : ∀ k, k < 64 → gr k = tt (128 * pl + k) ∧ mk k = tt (128 * pl + 64 + k)) : agG Q 0 gr mk := by
  intro l p hl hp
  have h1 := h l p hl hp
  have hl : l < Q.2.1 := hl
  have hp : p < Q.1 := hp
  have h2 := hg (8 * l + p) (by omega)
  exact ⟨h2.1.trans h1.1, h2.2.trans h1.2⟩
theorem tabI_of {tt gr mk : Nat → Int32} {pl : Nat} {Q : Pc} (h8 : Q.1 ≤ 8) (h9 : Q.2.1 ≤ 8) (h : agG Q 0 gr mk) (hg : ∀ k, k < 64 → tt (128 * pl + k) = gr k ∧ tt (128 * pl + 64 + k) = mk k) : tabI tt pl Q := by
  intro l p hl hp
  have h1 := h l p hl hp
  have hl : l < Q.2.1 := hl
  have hp : p < Q.1 := hp
  have h2 := hg (8 * l + p) (by omega)
  exact ⟨h2.1.trans h1.1, h2.2.trans h1.2⟩
theorem tabI_fr {tt tt2 : Nat → Int32} {pl pl2 : Nat} {Q : Pc} (h8 : Q.1 ≤ 8) (h9 : Q.2.1 ≤ 8) (h : tabI tt pl Q) (hne : pl ≠ pl2) (hf : ∀ j, (j < 128 * pl2 ∨ 128 * pl2 + 128 ≤ j) → tt2 j = tt j) : tabI tt2 pl Q := by
  intro l p hl hp
  have h1 := h l p hl hp
  have hl : l < Q.2.1 := hl
  have hp : p < Q.1 := hp
  exact ⟨(hf _ (by omega)).trans h1.1, (hf _ (by omega)).trans h1.2⟩
theorem sv_st {A gr mk : Nat → Int32} {a i j : Nat} (h : ∀ j, j < i → A (a + j) = gr j ∧ A (a + 64 + j) = mk j) (hi : i < 64) (hj : j < i + 1) : upd (upd A (a + i) (gr i)) (a + 64 + i) (mk i) (a + j) = gr j ∧ upd (upd A (a + i) (gr i)) (a + 64 + i) (mk i) (a + 64 + j) = mk j := by
  by_cases e : j = i
  · subst e
    rw [upd_ne (by omega), upd_self, upd_self]
    exact ⟨rfl, rfl⟩
  · rw [upd_ne (by omega), upd_ne (by omega), upd_ne (by omega), upd_ne (by omega)]
    exact h j (by omega)
theorem ok_tb {lw i j : Nat} {P : Pc} (hP : okPc P) (hi : i + 2 ≤ P.1) (hj : j + 2 ≤ P.2.1) : okPc (tb lw P i j).2 := by
  obtain ⟨a, b, c, d⟩ := hP
  have h := tb_dim lw P i j
  exact ⟨by omega, by omega, by omega, by omega⟩
theorem tb_i0 {lw i : Nat} {P : Pc} (hi : 0 < i) : tb lw P i 0 = ((tb lw P (i - 1) 0).1 + tA lw (tb lw P (i - 1) 0).2 0, cutP lw (tb lw P (i - 1) 0).2 0) := by
  obtain ⟨k, rfl⟩ : ∃ k, i = k + 1 := ⟨i - 1, by omega⟩
  rw [tb]; rfl
theorem tb_0j {lw j : Nat} {P : Pc} (hj : 0 < j) : tb lw P 0 j = ((tb lw P 0 (j - 1)).1 + tA lw (tb lw P 0 (j - 1)).2 1, cutP lw (tb lw P 0 (j - 1)).2 1) := by
  obtain ⟨k, rfl⟩ : ∃ k, j = k + 1 := ⟨j - 1, by omega⟩
  rw [tb]; rfl
theorem tb_ij {lw i j : Nat} {P : Pc} (hi : 0 < i) (hj : 0 < j) : tb lw P i j = chS lw (tb lw P i (j - 1)).1 (tb lw P i (j - 1)).2 (tb lw P (i - 1) j).1 (tb lw P (i - 1) j).2 := by
  obtain ⟨k, rfl⟩ : ∃ k, i = k + 1 := ⟨i - 1, by omega⟩
  obtain ⟨l, rfl⟩ : ∃ l, j = l + 1 := ⟨j - 1, by omega⟩
  exact tb_ch
/-- the places of the table that are laid -/
def tabA (lw : Nat) (P : Pc) (D : Nat → Nat → Prop) (tt tc : Nat → Int32) : Prop := ∀ i j, i ≤ 6 → j ≤ 6 → D i j → tabI tt (7 * i + j) (tb lw P i j).2 ∧ tc (7 * i + j) = (tb lw P i j).1
theorem tabA_st {lw i j : Nat} {P : Pc} {D D2 : Nat → Nat → Prop} {tt tc tt2 tc2 : Nat → Int32} (hP : okPc P) (h : tabA lw P D tt tc) (hi : i ≤ 6) (hj : j ≤ 6) (h1 : tabI tt2 (7 * i + j) (tb lw P i j).2 ∧ tc2 (7 * i + j) = (tb lw P i j).1) (hf : ∀ k, (k < 128 * (7 * i + j) ∨ 128 * (7 * i + j) + 128 ≤ k) → tt2 k = tt k) (hf2 : ∀ k, k ≠ 7 * i + j → tc2 k = tc k) (hD : ∀ x y, D2 x y → (x = i ∧ y = j) ∨ D x y) : tabA lw P D2 tt2 tc2 := by
  intro x y hx hy hd
  by_cases e : x = i ∧ y = j
  · obtain ⟨rfl, rfl⟩ := e
    exact h1
  · have h2 := h x y hx hy ((hD x y hd).resolve_left e)
    have hdm := tb_dim lw P x y
    obtain ⟨a, b, c, d⟩ := hP
    exact ⟨tabI_fr (by omega) (by omega) h2.1 (by omega) hf, (hf2 _ (by omega)).trans h2.2⟩
