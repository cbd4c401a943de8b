theorem at_ix (l p : Nat) : 8 * l + p = ix 0 l p := by rw [ix, if_pos rfl, Nat.mul_comm]
theorem mv_eq (g : Nat → Int32) : mv g = vg 0 g := by funext l p; rw [mv, vg, at_ix]
theorem z_st {rs : Nat → Int32} {a x q : Nat} (h : ∀ q, q < x → rs (a + q) = 0) (hq : q < x + 1) : upd rs (a + x) 0 (a + q) = 0 := by
  by_cases e : q = x
  · subst e; exact upd_self
  · rw [upd_ne (by omega)]; exact h q (by omega)
theorem upd_nx2 {se : Nat → Int32} {s : Nat → Nat} {u j : Nat} (h : ∀ j, j ≤ u → se j = nI (s j)) (hj : j ≤ u + 1) : upd se (u + 1) (nI (s (u + 1))) j = nI (s j) := by
  by_cases e : j = u + 1
  · subst e; exact upd_self
  · rw [upd_ne e]; exact h j (by omega)
/-- x and y have changed their parts, as far as line y, place x -/
def TI (g : Nat → Int32) (y x : Nat) (A : Nat → Int32) : Prop := ∀ r c, r < 8 → c < 8 → A (8 * r + c) = if max r c < y ∨ (max r c = y ∧ min r c < x) then g (8 * c + r) else g (8 * r + c)
theorem TI_0 {g : Nat → Int32} : TI g 0 0 g := fun r c _ _ => by rw [if_neg (by omega)]
theorem TI_out {g A : Nat → Int32} {y x : Nat} (h : y ≤ x) (H : TI g y x A) : TI g (y + 1) 0 A := fun r c hr hc => by
  rw [H r c hr hc]
  by_cases e : max r c < y ∨ (max r c = y ∧ min r c < x)
  · rw [if_pos e, if_pos (by omega)]
  · rw [if_neg e]
    by_cases e2 : max r c < y + 1 ∨ (max r c = y + 1 ∧ min r c < 0)
    · have : r = c := by omega
      subst this
      rw [if_pos e2]
    · rw [if_neg e2]
theorem TI_st {g A : Nat → Int32} {y x : Nat} (hy : y < 8) (hx : x < y) (H : TI g y x A) : TI g y (x + 1) (upd (upd A (8 * y + x) (A (8 * x + y))) (8 * x + y) (A (8 * y + x))) := fun r c hr hc => by
  have h1 := H y x hy (by omega)
  have h2 := H x y (by omega) hy
  rw [if_neg (by omega)] at h1 h2
  by_cases e1 : r = x ∧ c = y
  · obtain ⟨rfl, rfl⟩ := e1
    rw [upd_self, if_pos (by omega), h1]
  · rw [upd_ne (by omega)]
    by_cases e2 : r = y ∧ c = x
    · obtain ⟨rfl, rfl⟩ := e2
      rw [upd_self, if_pos (by omega), h2]
    · rw [upd_ne (by omega), H r c hr hc]
      by_cases e : max r c < y ∨ (max r c = y ∧ min r c < x)
      · rw [if_pos e, if_pos (by omega)]
      · rw [if_neg e]
        by_cases e3 : max r c < y ∨ (max r c = y ∧ min r c < x + 1)
        · exact absurd e3 (by omega)
        · rw [if_neg e3]
theorem TI_end {g A : Nat → Int32} {y x : Nat} (h : 8 ≤ y) (H : TI g y x A) : ∀ r c, r < 8 → c < 8 → A (8 * r + c) = g (8 * c + r) := fun r c hr hc => by rw [H r c hr hc, if_pos (by omega)]
theorem give_st {st gr mk : Nat → Int32} {wd hg i j : Nat} {a c : Int32} (H : ∀ j, j < i → st j = (if j % 8 < wd ∧ j / 8 < hg then gr j else 0) ∧ st (64 + j) = (if j % 8 < wd ∧ j / 8 < hg then mk j else 0)) (hi : i < 64) (ha : a = if i % 8 < wd ∧ i / 8 < hg then gr i else 0) (hc : c = if i % 8 < wd ∧ i / 8 < hg then mk i else 0) (hj : j < i + 1) : upd (upd st i a) (64 + i) c j = (if j % 8 < wd ∧ j / 8 < hg then gr j else 0) ∧ upd (upd st i a) (64 + i) c (64 + j) = (if j % 8 < wd ∧ j / 8 < hg then mk j else 0) := by
  by_cases e : j = i
  · subst e
    rw [upd_ne (by omega), upd_self, upd_self]
    exact ⟨ha, hc⟩
  · rw [upd_ne (by omega), upd_ne e, upd_ne (by omega), upd_ne (by omega)]
    exact H j (by omega)
