theorem stI_nb {st : Nat → Int32} {lw way : Nat} {P : Pc} (h : stI st lw P) (hw : way < 2) : st (way + 128) = nI (nbP P way) := by
  rcases way_or hw with rfl | rfl
  · exact h.2.1
  · exact h.2.2.1
theorem stI_nl {st : Nat → Int32} {lw way : Nat} {P : Pc} (h : stI st lw P) (hw : way < 2) : st (129 - way) = nI (nlP P way) := by
  rcases way_or hw with rfl | rfl
  · exact h.2.2.1
  · exact h.2.1
theorem img_set {A ims kf : Nat → Int32} {im : Nat → Nat × Pc} {lw nk : Nat} {P : Pc} (himg : ∀ k, k < 2 → kf k ≠ 0 → stI (fun i => ims (131 * k + i)) (im k).1 (im k).2) (hs : stI (fun i => A (131 * nk + i)) lw P) (hA : ∀ j, (j < 131 * nk ∨ 131 * nk + 131 ≤ j) → A j = ims j) : ∀ k, k < 2 → upd kf nk 1 k ≠ 0 → stI (fun i => A (131 * k + i)) (if k = nk then (lw, P) else im k).1 (if k = nk then (lw, P) else im k).2 := by
  intro k hk hne
  by_cases e : k = nk
  · subst e
    rw [if_pos rfl]
    exact hs
  · rw [upd_ne e] at hne
    rw [if_neg e]
    exact stI_cp (himg k hk hne) (fun j hj => hA _ (by omega))
theorem sum_g {st : Nat → Int32} {lw : Nat} {P : Pc} (h : stI st lw P) : sm (fun i => st i) 64 = sumG P := sm_pic h.2.2.2.2.1.2.1 h.2.2.2.2.1.2.2.2 (fun x y hx hy => (h.1 x y hx hy).1)
theorem sum_m {st : Nat → Int32} {lw : Nat} {P : Pc} {v : Int32} (h : stI st lw P) (hv : ¬ (0 : Int32) = v) : sm (fun i => if st (64 + i) = v then 1 else 0) 64 = cntM P v := sm_pic (g := fun x y => if P.2.2.2 x y = v then 1 else 0) h.2.2.2.2.1.2.1 h.2.2.2.2.1.2.2.2 (fun x y hx hy => by
  show (if st (64 + (8 * y + x)) = v then (1 : Int32) else 0) = _
  rw [(h.1 x y hx hy).2]
  by_cases c : x < P.1 ∧ y < P.2.1
  · rw [if_pos c, if_pos c]
  · rw [if_neg c, if_neg c, if_neg hv])
/-- a number is a seam as far as line y -/
abbrev qN (m nl nb y : Nat) : Prop := m / 10 ^ nl = 0 ∧ (∀ l, l < y → dg m nl l < nb) ∧ ∀ l, l < y - 1 → dg m nl (l + 1) ≤ dg m nl l + 1 ∧ dg m nl l ≤ dg m nl (l + 1) + 1
theorem qN_t {m nl nb y : Nat} (h : qN m nl nb y) (h1 : dg m nl y < nb) (h2 : 0 < y → dg m nl y ≤ dg m nl (y - 1) + 1 ∧ dg m nl (y - 1) ≤ dg m nl y + 1) : qN m nl nb (y + 1) := by
  refine ⟨h.1, fun l hl => ht_1 h.2.1 h1 hl, fun l hl => ?_⟩
  by_cases e : l + 1 = y
  · have h3 := h2 (by omega)
    subst e
    exact h3
  · exact h.2.2 l (by omega)
theorem qN_dn {m nl nb y : Nat} (h : qN m nl nb (y + 1)) : qN m nl nb y := ⟨h.1, fun l hl => h.2.1 l (by omega), fun l hl => h.2.2 l (by omega)⟩
