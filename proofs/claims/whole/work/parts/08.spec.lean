/-! what is promised, as mathematics: a grid is read by line and place; way 0: lines are rows, way 1: lines are columns -/
def ix (way l p : Nat) : Nat := if way = 0 then l * 8 + p else p * 8 + l
def br (way wd hg : Nat) : Nat := if way = 0 then wd else hg
def li (way wd hg : Nat) : Nat := if way = 0 then hg else wd
def vg (way : Nat) (a : Nat → Int32) (l p : Nat) : Int32 := a (ix way l p)
def exS (m : Nat → Nat → Int32) (l p : Nat) : Int32 := if m l p = 1 then 100 else if m l p = 2 then -100 else 0
def gapS (n : Nat) (h : Nat → Nat → Int32) (l p : Nat) : Int32 := iab (h l (p - 1) - h l (min (p + 1) (n - 1)))
def vgapS (n : Nat) (h : Nat → Nat → Int32) (l p : Nat) : Int32 := iab (h (l - 1) p - h (min (l + 1) (n - 1)) p)
def wtS (nb nl : Nat) (h m : Nat → Nat → Int32) (l p : Nat) : Int32 := gapS nb h l p + vgapS nl h l p + exS m l p
def stS (lw nb nl : Nat) (h m : Nat → Nat → Int32) (l p : Nat) : Int32 := exS m l p + gapS nb h l p + (if lw = 0 then vgapS nl h l p else 0)
def tuS (lw nb : Nat) (h : Nat → Nat → Int32) (l p fr : Nat) : Int32 := if lw = 0 ∨ fr = p then 0 else iab (h (l - 1) p - h l (if fr < p then p - 1 else min (p + 1) (nb - 1)))
/-- the first of a .. a + n at which f is least -/
def am (f : Nat → Int32) (a : Nat) : Nat → Nat
  | 0 => a
  | n + 1 => if f (a + (n + 1)) < f (am f a n) then a + (n + 1) else am f a n
theorem am_le (f : Nat → Int32) (a n : Nat) : am f a n ≤ a + n := by
  induction n with
  | zero => exact Nat.le_refl _
  | succ n ih => simp only [am]; split <;> omega
theorem am_ge (f : Nat → Int32) (a n : Nat) : a ≤ am f a n := by
  induction n with
  | zero => exact Nat.le_refl _
  | succ n ih => simp only [am]; split <;> omega
theorem am_congr {f g : Nat → Int32} {a n : Nat} (h : ∀ j, a ≤ j → j ≤ a + n → f j = g j) : am f a n = am g a n := by
  induction n with
  | zero => rfl
  | succ n ih =>
    have e := ih (fun j h1 h2 => h j h1 (by omega))
    simp only [am]
    rw [e, h (a + (n + 1)) (by omega) (by omega), h (am g a n) (am_ge _ _ _) (by have := am_le g a n; omega)]
theorem ix_lt {way l p : Nat} (hl : l < 8) (hp : p < 8) : ix way l p < 64 := by unfold ix; split <;> omega
theorem ix_inj {way l p l2 p2 : Nat} (hl : l < 8) (hp : p < 8) (hl2 : l2 < 8) (hp2 : p2 < 8) (e : ix way l p = ix way l2 p2) : l = l2 ∧ p = p2 := by
  unfold ix at e; split at e <;> omega
theorem ix_ne {way l p l2 p2 : Nat} (hl : l < 8) (hp : p < 8) (hl2 : l2 < 8) (hp2 : p2 < 8) (e : l ≠ l2 ∨ p ≠ p2) : ix way l p ≠ ix way l2 p2 := fun q => by
  have := ix_inj hl hp hl2 hp2 q
  omega
theorem br_or (way wd hg : Nat) : br way wd hg = wd ∨ br way wd hg = hg := by unfold br; split <;> simp
theorem li_or (way wd hg : Nat) : li way wd hg = wd ∨ li way wd hg = hg := by unfold li; split <;> simp
/-- a picture of the class at the position k of the world -/
def isPic (G : Gs) (b : Nat) (w : Wd) (k wd hg lw : Nat) (ga ma : Nat → Int32) : Prop :=
  w k = .inr (3, [.int (nI wd), .int (nI hg), .int (nI lw), .ref (b + (k + 1)), .ref (b + (k + 2))]) ∧ w (k + 1) = aI G 64 ga ∧ w (k + 2) = aI G 64 ma ∧ 2 ≤ wd ∧ wd ≤ 8 ∧ 2 ≤ hg ∧ hg ≤ 8 ∧ lw < 2
theorem upd_self {f : Nat → Int32} {k : Nat} {x : Int32} : upd f k x k = x := if_pos rfl
theorem upd_ne {f : Nat → Int32} {k j : Nat} {x : Int32} (h : j ≠ k) : upd f k x j = f j := if_neg h
