/-! the least seam -/
def coS (lw nb nl : Nat) (h m : Nat → Nat → Int32) (l p fr : Nat) : Int32 := stS lw nb nl h m l p + tuS lw nb h l p fr
/-- what is still to come below a dot that has k lines below it -/
def Rs (c : Nat → Nat → Nat → Int32) (nb nl : Nat) : Nat → Nat → Int32
  | 0, _ => 0
  | k + 1, p => c (nl - 1 - k) (am (fun q => c (nl - 1 - k) q p + Rs c nb nl k q) (p - 1) (min (p + 1) (nb - 1) - (p - 1))) p + Rs c nb nl k (am (fun q => c (nl - 1 - k) q p + Rs c nb nl k q) (p - 1) (min (p + 1) (nb - 1) - (p - 1)))
/-- where the seam goes on in line l + 1 from the place p of line l -/
def gN (c : Nat → Nat → Nat → Int32) (nb nl l p : Nat) : Nat := if l + 1 < nl then am (fun q => c (l + 1) q p + Rs c nb nl (nl - 2 - l) q) (p - 1) (min (p + 1) (nb - 1) - (p - 1)) else p
def s0 (c : Nat → Nat → Nat → Int32) (nb nl : Nat) : Nat := am (fun p => c 0 p p + Rs c nb nl (nl - 1) p) 0 (nb - 1)
def sS (c : Nat → Nat → Nat → Int32) (nb nl : Nat) : Nat → Nat
  | 0 => s0 c nb nl
  | l + 1 => gN c nb nl l (sS c nb nl l)
def toS (c : Nat → Nat → Nat → Int32) (nb nl : Nat) : Int32 := c 0 (s0 c nb nl) (s0 c nb nl) + Rs c nb nl (nl - 1) (s0 c nb nl)
theorem gN_lt {c : Nat → Nat → Nat → Int32} {nb nl l p : Nat} (h : p < nb) : gN c nb nl l p < nb := by
  unfold gN
  split
  · have := am_le (fun q => c (l + 1) q p + Rs c nb nl (nl - 2 - l) q) (p - 1) (min (p + 1) (nb - 1) - (p - 1))
    omega
  · exact h
theorem s0_lt {c : Nat → Nat → Nat → Int32} {nb nl : Nat} (h : 0 < nb) : s0 c nb nl < nb := by
  have := am_le (fun p => c 0 p p + Rs c nb nl (nl - 1) p) 0 (nb - 1)
  unfold s0
  omega
theorem sS_lt {c : Nat → Nat → Nat → Int32} {nb nl : Nat} (h : 0 < nb) : ∀ l, sS c nb nl l < nb
  | 0 => s0_lt h
  | l + 1 => gN_lt (sS_lt h l)
theorem Rs_step {c : Nat → Nat → Nat → Int32} {nb nl l p : Nat} (h : l + 1 < nl) : Rs c nb nl (nl - 1 - l) p = c (l + 1) (gN c nb nl l p) p + Rs c nb nl (nl - 2 - l) (gN c nb nl l p) := by
  obtain ⟨k, hk⟩ : ∃ k, nl - 1 - l = k + 1 := ⟨nl - 2 - l, by omega⟩
  have h2 : nl - 2 - l = k := by omega
  have h3 : nl - 1 - k = l + 1 := by omega
  rw [hk, Rs, gN, if_pos h, h2, h3]
theorem co_self {lw nb nl l p : Nat} {h m : Nat → Nat → Int32} : coS lw nb nl h m l p p = stS lw nb nl h m l p := by
  have e : tuS lw nb h l p p = 0 := by rw [tuS, if_pos (Or.inr rfl)]
  rw [coS, e, Int32.add_zero]
theorem onw {a b c : Int32} : a + (b + c) = b + a + c := by rw [← Int32.add_assoc, Int32.add_comm a b]
/-- the scan of the neighbours below: the choice after i + 1 of them -/
theorem amx_0 {F : Nat → Int32} {a : Nat} : a = am F a 0 := rfl
theorem amx_t {F : Nat → Int32} {a i v : Nat} (hi : i ≠ 0) (e : v = am F a (i - 1)) (h : (F (a + i)).toInt < (F v).toInt) : a + i = am F a i := by
  obtain ⟨j, rfl⟩ : ∃ j, i = j + 1 := ⟨i - 1, by omega⟩
  rw [Nat.add_sub_cancel] at e
  subst e
  rw [am, if_pos (Int32.lt_iff_toInt_lt.mpr h)]
theorem amx_f {F : Nat → Int32} {a i v : Nat} (hi : i ≠ 0) (e : v = am F a (i - 1)) (h : (F v).toInt ≤ (F (a + i)).toInt) : v = am F a i := by
  obtain ⟨j, rfl⟩ : ∃ j, i = j + 1 := ⟨i - 1, by omega⟩
  rw [Nat.add_sub_cancel] at e
  subst e
  rw [am, if_neg (fun q => by have := Int32.lt_iff_toInt_lt.mp q; omega)]
/-- the rows of a seam's two tables from line t on (and of line t - 1 up to place p) are as they must be -/
def FL (lw nb nl : Nat) (h m : Nat → Nat → Int32) (t p : Nat) (ce go : Nat → Int32) : Prop :=
  ∀ l q, l < nl → q < nb → (t ≤ l ∨ (l + 1 = t ∧ q < p)) → ce (l * 8 + q) = stS lw nb nl h m l q + Rs (coS lw nb nl h m) nb nl (nl - 1 - l) q ∧ go (l * 8 + q) = nI (gN (coS lw nb nl h m) nb nl l q)
theorem FL_st {lw nb nl t p : Nat} {h m : Nat → Nat → Int32} {ce go ce2 go2 : Nat → Int32} (hnl : nl ≤ 8) (hnb : nb ≤ 8) (ht : 0 < t) (htl : t ≤ nl) (hp : p < nb) (H : FL lw nb nl h m t p ce go)
    (h1 : ∀ j, j ≠ (t - 1) * 8 + p → ce2 j = ce j ∧ go2 j = go j) (h2 : ce2 ((t - 1) * 8 + p) = stS lw nb nl h m (t - 1) p + Rs (coS lw nb nl h m) nb nl (nl - 1 - (t - 1)) p) (h3 : go2 ((t - 1) * 8 + p) = nI (gN (coS lw nb nl h m) nb nl (t - 1) p)) : FL lw nb nl h m t (p + 1) ce2 go2 := by
  intro l q hl hq c
  by_cases e : l = t - 1 ∧ q = p
  · obtain ⟨rfl, rfl⟩ := e
    exact ⟨h2, h3⟩
  · rw [(h1 (l * 8 + q) (by omega)).1, (h1 (l * 8 + q) (by omega)).2]
    exact H l q hl hq (by omega)
theorem FL_out {lw nb nl t p : Nat} {h m : Nat → Nat → Int32} {ce go : Nat → Int32} (hp : nb ≤ p) (H : FL lw nb nl h m t p ce go) : FL lw nb nl h m (t - 1) 0 ce go := fun l q hl hq c => H l q hl hq (by omega)
