/-! the rows of the table that are laid so far -/
def RowI (G : Gs) (b : Nat) (w : Wd) (kt lw : Nat) (cs : Nat → Int32) (D : Nat → Prop) (Q : Nat → Int32 × Pc) : Prop := ∀ x, D x → isP G b w (kt + 3 * x + 2) lw (Q x).2 ∧ cs x = (Q x).1
theorem RowI.fr {G : Gs} {b : Nat} {w w2 : Wd} {kt lw : Nat} {cs : Nat → Int32} {D : Nat → Prop} {Q : Nat → Int32 × Pc} (H : RowI G b w kt lw cs D Q) (hD : ∀ x, D x → x < 7) (hf : ∀ j, kt + 2 ≤ j → j < kt + 23 → w2 j = w j) : RowI G b w2 kt lw cs D Q := fun x hx => by
  have h7 := hD x hx
  exact ⟨(H x hx).1.fr (fun j h1 h2 => hf j (by omega) (by omega)), (H x hx).2⟩
theorem RowI.st {G : Gs} {b : Nat} {w w2 : Wd} {kt lw jj : Nat} {cs : Nat → Int32} {c : Int32} {D D2 : Nat → Prop} {Q Q2 : Nat → Int32 × Pc} (H : RowI G b w kt lw cs D Q) (hD : ∀ x, D2 x → x = jj ∨ (x ≠ jj ∧ x < 7 ∧ D x ∧ Q2 x = Q x)) (hn : isP G b w2 (kt + 3 * jj + 2) lw (Q2 jj).2) (hc : c = (Q2 jj).1) (hf : ∀ j, kt + 2 ≤ j → j < kt + 23 → (j < kt + 3 * jj + 2 ∨ kt + 3 * jj + 5 ≤ j) → w2 j = w j) : RowI G b w2 kt lw (upd cs jj c) D2 Q2 := fun x hx => by
  by_cases e : x = jj
  · subst e
    exact ⟨hn, upd_self.trans hc⟩
  · obtain ⟨_, h7, h1, h2⟩ := (hD x hx).resolve_left e
    rw [upd_ne e, h2]
    exact ⟨(H x h1).1.fr (fun j g1 g2 => hf j (by omega) (by omega) (by omega)), (H x h1).2⟩
theorem all_st {G : Gs} {b : Nat} {w w2 : Wd} {kt jj lw : Nat} {P : Pc} (H : ∀ i, i < 7 → ∃ lw P, isP G b w (kt + 3 * i + 2) lw P) (hn : isP G b w2 (kt + 3 * jj + 2) lw P) (hf : ∀ j, kt + 2 ≤ j → j < kt + 23 → (j < kt + 3 * jj + 2 ∨ kt + 3 * jj + 5 ≤ j) → w2 j = w j) : ∀ i, i < 7 → ∃ lw P, isP G b w2 (kt + 3 * i + 2) lw P := by
  intro i hi
  by_cases e : i = jj
  · subst e
    exact ⟨lw, P, hn⟩
  · obtain ⟨l2, P2, h⟩ := H i hi
    exact ⟨l2, P2, h.fr (fun j h1 h2 => hf j (by omega) (by omega) (by omega))⟩
theorem row_0 {G : Gs} {b : Nat} {w : Wd} {kt lw : Nat} {cs : Nat → Int32} {P : Pc} (h : isP G b w (kt + 3 * 0 + 2) lw P) : RowI G b w kt lw (upd cs 0 0) (fun x => x ≤ 0) (fun x => tb lw P 0 x) := fun x hx => by
  have hx0 : x = 0 := Nat.le_zero.mp hx
  subst hx0
  dsimp only
  rw [tb]
  exact ⟨h, upd_self⟩
