/-! the table -/
def tb (lw : Nat) (P0 : Pc) : Nat → Nat → Int32 × Pc
  | 0, 0 => (0, P0)
  | 0, j + 1 => ((tb lw P0 0 j).1 + tA lw (tb lw P0 0 j).2 1, cutP lw (tb lw P0 0 j).2 1)
  | i + 1, 0 => ((tb lw P0 i 0).1 + tA lw (tb lw P0 i 0).2 0, cutP lw (tb lw P0 i 0).2 0)
  | i + 1, j + 1 => if (tb lw P0 (i + 1) j).1 + tA lw (tb lw P0 (i + 1) j).2 1 < (tb lw P0 i (j + 1)).1 + tA lw (tb lw P0 i (j + 1)).2 0
    then ((tb lw P0 (i + 1) j).1 + tA lw (tb lw P0 (i + 1) j).2 1, cutP lw (tb lw P0 (i + 1) j).2 1)
    else ((tb lw P0 i (j + 1)).1 + tA lw (tb lw P0 i (j + 1)).2 0, cutP lw (tb lw P0 i (j + 1)).2 0)
  termination_by i j => (i, j)
theorem tb_dim (lw : Nat) (P0 : Pc) : ∀ i j, (tb lw P0 i j).2.1 = P0.1 - i ∧ (tb lw P0 i j).2.2.1 = P0.2.1 - j
  | 0, 0 => by rw [tb]; exact ⟨rfl, rfl⟩
  | 0, j + 1 => by
    have h := tb_dim lw P0 0 j
    rw [tb]
    exact ⟨by show (tb lw P0 0 j).2.1 - (1 - 1) = _; omega, by show (tb lw P0 0 j).2.2.1 - 1 = _; omega⟩
  | i + 1, 0 => by
    have h := tb_dim lw P0 i 0
    rw [tb]
    exact ⟨by show (tb lw P0 i 0).2.1 - (1 - 0) = _; omega, by show (tb lw P0 i 0).2.2.1 - 0 = _; omega⟩
  | i + 1, j + 1 => by
    have h1 := tb_dim lw P0 (i + 1) j
    have h2 := tb_dim lw P0 i (j + 1)
    rw [tb]
    split
    · exact ⟨by show (tb lw P0 (i + 1) j).2.1 - (1 - 1) = _; omega, by show (tb lw P0 (i + 1) j).2.2.1 - 1 = _; omega⟩
    · exact ⟨by show (tb lw P0 i (j + 1)).2.1 - (1 - 0) = _; omega, by show (tb lw P0 i (j + 1)).2.2.1 - 0 = _; omega⟩
  termination_by i j => (i, j)
/-- the choice of the cheaper -/
def chS (lw : Nat) (cv : Int32) (Vp : Pc) (cu : Int32) (Up : Pc) : Int32 × Pc := if cv + tA lw Vp 1 < cu + tA lw Up 0 then (cv + tA lw Vp 1, cutP lw Vp 1) else (cu + tA lw Up 0, cutP lw Up 0)
theorem tb_ch {lw : Nat} {P0 : Pc} {i j : Nat} : tb lw P0 (i + 1) (j + 1) = chS lw (tb lw P0 (i + 1) j).1 (tb lw P0 (i + 1) j).2 (tb lw P0 i (j + 1)).1 (tb lw P0 i (j + 1)).2 := by rw [tb]; rfl
abbrev ctF (b kt : Nat) : va_E := .inr (0, [.ref (b + (kt + 1)), .ref (b + (kt + 23)), .ref (b + (kt + 24)), .ref (b + (kt + 28))])
def anySm (G : Gs) (b : Nat) (w : Wd) (k : Nat) : Prop := ∃ way tot pl ce go, isSm G b w k way tot pl ce go
theorem anySm.fr {G : Gs} {b : Nat} {w w2 : Wd} {k : Nat} (h : anySm G b w k) (hf : ∀ j, k ≤ j → j < k + 4 → w2 j = w j) : anySm G b w2 k := by
  obtain ⟨a1, a2, a3, a4, a5, h⟩ := h
  exact ⟨a1, a2, a3, a4, a5, h.fr hf⟩
theorem anySm.obj {G : Gs} {b : Nat} {w : Wd} {k : Nat} (h : anySm G b w k) : ∃ way tot, w k = .inr (4, [.int (nI way), .int tot, .ref (b + (k + 1)), .ref (b + (k + 2)), .ref (b + (k + 3))]) := by
  obtain ⟨a1, a2, a3, a4, a5, h⟩ := h
  exact ⟨a1, a2, h.1⟩
def ctW (G : Gs) (b : Nat) (w : Wd) (kt : Nat) : Prop := w kt = ctF b kt ∧ w (kt + 1) = aP G 7 (fun i => some (b + (kt + 3 * i + 2))) ∧ (∀ i, i < 7 → ∃ lw P, isP G b w (kt + 3 * i + 2) lw P) ∧ (∃ cs, w (kt + 23) = aI G 7 cs) ∧ anySm G b w (kt + 24) ∧ anySm G b w (kt + 28)
