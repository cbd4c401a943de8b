/-! a seam told by a number -/
def dg (n nl l : Nat) : Nat := n / 10 ^ (nl - 1 - l) % 10
abbrev okD (s : Nat → Nat) (nl nb : Nat) : Prop := (∀ l, l < nl → s l < nb) ∧ ∀ l, l < nl - 1 → s (l + 1) ≤ s l + 1 ∧ s l ≤ s (l + 1) + 1
abbrev okN (n nl nb : Nat) : Prop := n / 10 ^ nl = 0 ∧ okD (dg n nl) nl nb
theorem dg_lt (n nl l : Nat) : dg n nl l < 10 := Nat.mod_lt _ (by decide)
theorem iab_sub {a b : Nat} (ha : a < 2 ^ 30) (hb : b < 2 ^ 30) : (iab (nI a - nI b)).toInt = max ((a : Int) - b) ((b : Int) - a) := by
  unfold iab
  by_cases h : b ≤ a
  · rw [pk_sub h, if_pos (nI_pos' (by omega)), nI_toInt (by omega)]
    omega
  · have h1 : nI a - nI b < 0 := pk_sneg hb (by omega)
    rw [if_neg (fun q => by have h3 := Int32.le_iff_toInt_le.mp q; have h4 := Int32.lt_iff_toInt_lt.mp h1; omega)]
    have e : (0 : Int32) - (nI a - nI b) = nI b - nI a := by
      rw [Int32.zero_sub, Int32.neg_sub]
    rw [e, pk_sub (by omega), nI_toInt (by omega)]
    omega
theorem upd_nx {pl : Nat → Int32} {s : Nat → Nat} {u j : Nat} (h : ∀ j, j < u → pl j = nI (s j)) (hj : j < u + 1) : upd pl u (nI (s u)) j = nI (s j) := by
  by_cases e : j = u
  · subst e; exact upd_self
  · rw [upd_ne e]; exact h j (by omega)
theorem upd_dn {pl : Nat → Int32} {s : Nat → Nat} {nl t l : Nat} {x : Int32} (ht : 0 < t) (hx : x = nI (s (t - 1))) (h : ∀ l, t ≤ l → l < nl → pl l = nI (s l)) (h1 : t - 1 ≤ l) (h2 : l < nl) : upd pl (t - 1) x l = nI (s l) := by
  by_cases e : l = t - 1
  · subst e; rw [upd_self, hx]
  · rw [upd_ne e]; exact h l (by omega) h2
theorem div_st {n d nl t : Nat} (ht : 0 < t) (htl : t ≤ nl) (hd : d = n / 10 ^ (nl - t)) : d / 10 = n / 10 ^ (nl - (t - 1)) := by
  rw [hd, Nat.div_div_eq_div_mul, ← Nat.pow_succ, show (nl - t).succ = nl - (t - 1) by omega]
theorem dg_st {n d nl t : Nat} (ht : 0 < t) (htl : t ≤ nl) (hd : d = n / 10 ^ (nl - t)) : nI (d % 10) = nI (dg n nl (t - 1)) := by
  rw [dg, hd, show nl - 1 - (t - 1) = nl - t by omega]
