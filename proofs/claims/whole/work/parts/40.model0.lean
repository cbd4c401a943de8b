/-! the reference: its cells 77 .. 87 -/
abbrev moF (b n wd hg : Nat) (sc kc bc bo ag bk : Int32) : va_E := .inr (6, [.ref (b + 78), .ref (b + 79), .ref (b + 80), .ref (b + 81), .int (nI n), .ref (b + 82), .ref (b + 83), .int (nI wd), .int (nI hg), .ref (b + 84), .ref (b + 85), .int sc, .int kc, .int bc, .int bo, .int ag, .int bk, .ref (b + 86), .ref (b + 87)])
def mW (G : Gs) (b : Nat) (w : Wd) (n wd hg : Nat) (sc kc bc bo ag bk : Int32) (st ims kf sg gr mk rs se tt tc : Nat → Int32) : Prop :=
  w 77 = moF b n wd hg sc kc bc bo ag bk ∧ w 78 = aI G 131 st ∧ w 79 = aI G 262 ims ∧ w 80 = aZ G 2 kf ∧ w 81 = aI G 80 sg ∧ w 82 = aI G 64 gr ∧ w 83 = aI G 64 mk ∧ w 84 = aI G 64 rs ∧ w 85 = aI G 8 se ∧ w 86 = aI G 6272 tt ∧ w 87 = aI G 49 tc
def mv (g : Nat → Int32) (l p : Nat) : Int32 := g (8 * l + p)
theorem iab_m {x : Int32} (h : x.toInt < 0) : -x = iab x := by
  rw [iab, if_neg (fun q => by have := Int32.le_iff_toInt_le.mp q; simp at this; omega), Int32.zero_sub]
theorem iab_p {x : Int32} (h : 0 ≤ x.toInt) : x = iab x := by
  rw [iab, if_pos (Int32.le_iff_toInt_le.mpr (by simpa using h))]
theorem co_0 {lw nb nl l p f : Nat} {h m : Nat → Nat → Int32} (e : lw = 0) : wtS nb nl h m l p = coS lw nb nl h m l p f := by
  rw [coS, tuS, if_pos (Or.inl e), stS, if_pos e, wtS, Int32.add_zero, Int32.add_comm]
  rw [← Int32.add_assoc]
theorem co_e {lw nb nl l p f : Nat} {h m : Nat → Nat → Int32} (e : lw ≠ 0) (hf : f = p) : exS m l p + gapS nb h l p = coS lw nb nl h m l p f := by
  rw [coS, tuS, if_pos (Or.inr hf), stS, if_neg e, Int32.add_zero, Int32.add_zero]
theorem co_l {lw nb nl l p f : Nat} {g m : Nat → Int32} (e : lw ≠ 0) (hf : f < p) : exS (mv m) l p + gapS nb (mv g) l p + iab (mv g (l - 1) p - mv g l (p - 1)) = coS lw nb nl (mv g) (mv m) l p f := by
  have h1 : ¬ (lw = 0 ∨ f = p) := by omega
  rw [coS, tuS, if_neg h1, if_pos hf, stS, if_neg e, Int32.add_zero]
theorem co_r {lw nb nl l p f : Nat} {g m : Nat → Int32} (e : lw ≠ 0) (hf : p < f) : exS (mv m) l p + gapS nb (mv g) l p + iab (mv g (l - 1) p - mv g l (min (p + 1) (nb - 1))) = coS lw nb nl (mv g) (mv m) l p f := by
  have h1 : ¬ (lw = 0 ∨ f = p) := by omega
  have h2 : ¬ f < p := by omega
  rw [coS, tuS, if_neg h1, if_neg h2, stS, if_neg e, Int32.add_zero]
theorem gapS_eq {n : Nat} {h : Nat → Nat → Int32} {l p : Nat} : iab (h l (p - 1) - h l (min (p + 1) (n - 1))) = gapS n h l p := rfl
/-- the rows of 'rest' from line t on (and of line t - 1 up to place p) are as they must be -/
def RI (c : Nat → Nat → Nat → Int32) (nb nl t p : Nat) (rs : Nat → Int32) : Prop := ∀ l q, l < nl → q < nb → (t ≤ l ∨ (l + 1 = t ∧ q < p)) → rs (8 * l + q) = Rs c nb nl (nl - 1 - l) q
theorem nx_gN {c : Nat → Nat → Nat → Int32} {nb nl t p : Nat} {rs : Nat → Int32} (ht : 0 < t) (htl : t < nl) (hrs : ∀ q, q < nb → rs (8 * t + q) = Rs c nb nl (nl - 1 - t) q) (hp : p < nb) : am (fun q => c t q p + rs (8 * t + q)) (p - 1) (min (p + 1) (nb - 1) - (p - 1)) = gN c nb nl (t - 1) p := by
  rw [gN, if_pos (by omega), show t - 1 + 1 = t by omega, show nl - 2 - (t - 1) = nl - 1 - t by omega]
  exact am_congr (fun j _ hj => by show c t j p + rs (8 * t + j) = _; rw [hrs j (by omega)])
theorem RI_st {c : Nat → Nat → Nat → Int32} {nb nl t p : Nat} {rs : Nat → Int32} {x : Int32} (hnb : nb ≤ 8) (ht : 0 < t) (htl : t < nl) (hp : p < nb) (H : RI c nb nl t p rs) (hx : x = c t (gN c nb nl (t - 1) p) p + rs (8 * t + gN c nb nl (t - 1) p)) : RI c nb nl t (p + 1) (upd rs (8 * (t - 1) + p) x) := by
  intro l q hl hq hc
  by_cases e : l = t - 1 ∧ q = p
  · obtain ⟨rfl, rfl⟩ := e
    rw [upd_self, hx, Rs_step (by omega), show t - 1 + 1 = t by omega, show nl - 2 - (t - 1) = nl - 1 - t by omega, H t _ htl (gN_lt hq) (Or.inl (Nat.le_refl t))]
  · rw [upd_ne (by omega)]
    exact H l q hl hq (by omega)
theorem RI_out {c : Nat → Nat → Nat → Int32} {nb nl t p : Nat} {rs : Nat → Int32} (hp : nb ≤ p) (H : RI c nb nl t p rs) : RI c nb nl (t - 1) 0 rs := fun l q hl hq hc => H l q hl hq (by omega)
