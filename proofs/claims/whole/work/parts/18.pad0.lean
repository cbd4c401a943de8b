section SW
variable {κ : Kx} {G : Gs} {b : Nat} {cc : ByteArray} {nL : Nat} {own : String} {cx : Cond} {h : Nat} {ν : Nat × Nat × Nat} {w : Wd} {pc pc2 : Nat} {L L2 : List (Option Value)} {st : List Value}
theorem r_lookup (X : CX κ G cc nL own cx h) {dflt : Int} {ps : Array (Int × Int)} {n : Nat} (d : Dc cc pc (.lookupswitch dflt ps) n pc2) (hp : (ps.toList.zip (ps.toList.drop 1)).all (fun (a, next) => a.1 < next.1) = true) {off : Int} {tgt : Nat} {x : Int32} (ho : Op.lookupswitch.offset ps.toList dflt x.toInt = off) (ht : (pc : Int) + off = (tgt : Int)) (k : V κ G b ν w tgt L st) : V κ G b ν w pc L (.int x :: st) :=
  fun H locs ls a1 a2 a3 => lv_lookup X.1 X.2.1 d.1 hp ho ht (k H locs ls a1 a2 a3)
theorem r_tabOut (X : CX κ G cc nL own cx h) {dflt lo hi : Int} {offs : Array Int} {n : Nat} (d : Dc cc pc (.tableswitch dflt lo hi offs) n pc2) {tgt : Nat} {x : Int32} (hx : x.toInt < lo ∨ hi < x.toInt) (ht : (pc : Int) + dflt = (tgt : Int)) (k : V κ G b ν w tgt L st) : V κ G b ν w pc L (.int x :: st) :=
  fun H locs ls a1 a2 a3 => lv_tableOut X.1 X.2.1 d.1 hx ht (k H locs ls a1 a2 a3)
theorem r_tabIn (X : CX κ G cc nL own cx h) {dflt lo hi : Int} {offs : Array Int} {n : Nat} (d : Dc cc pc (.tableswitch dflt lo hi offs) n pc2) {off : Int} {tgt : Nat} {x : Int32} (j : Int) (hj : x.toInt = j) (h1 : ¬ j < lo) (h2 : ¬ hi < j) (ho : offs[(j - lo).toNat]? = some off) (ht : (pc : Int) + off = (tgt : Int)) (k : V κ G b ν w tgt L st) : V κ G b ν w pc L (.int x :: st) := by
  subst hj
  exact fun H locs ls a1 a2 a3 => lv_tableIn X.1 X.2.1 d.1 h1 h2 ho ht (k H locs ls a1 a2 a3)
end SW
/-! the pad -/
def isPad (G : Gs) (b : Nat) (w : Wd) (k n : Nat) (sg : Nat → Int32) : Prop := w k = .inr (2, [.int (nI n), .ref (b + (k + 1))]) ∧ w (k + 1) = aI G 80 sg ∧ n ≤ 80
/-- what a sign means as a grey (how = 0), as a mark (1); -6: nothing -/
def vS (how : Nat) (x : Int32) : Int32 := if how = 0 then (if 48 ≤ x.toInt ∧ x.toInt ≤ 57 then x - 48 else -6) else if x.toInt = 46 then 0 else if x.toInt = 107 then 1 else if x.toInt = 103 then 2 else -6
abbrev csS (how : Nat) (x : Int32) (bt : Prop) [Decidable bt] : Prop := if bt then x.toInt = 47 else 0 ≤ (vS how x).toInt
/-- the first number below n with P, else n -/
def fb (P : Nat → Bool) : Nat → Nat
  | 0 => 0
  | n + 1 => if fb P n < n then fb P n else if P n then n else n + 1
theorem fb_none {P : Nat → Bool} : ∀ {n : Nat}, (∀ j, j < n → P j = false) → fb P n = n
  | 0, _ => rfl
  | n + 1, h => by
    have e := fb_none (n := n) (fun j hj => h j (by omega))
    simp only [fb]
    rw [e, if_neg (Nat.lt_irrefl n), h n (by omega)]
    rfl
theorem fb_hit {P : Nat → Bool} {i : Nat} (h : ∀ j, j < i → P j = false) (hi : P i = true) : ∀ {n : Nat}, i < n → fb P n = i
  | 0, q => absurd q (Nat.not_lt_zero _)
  | n + 1, q => by
    simp only [fb]
    by_cases e : i = n
    · subst e
      rw [fb_none h, if_neg (Nat.lt_irrefl i), if_pos hi]
    · have e2 := fb_hit h hi (n := n) (by omega)
      rw [e2, if_pos (by omega)]
def duS (wd hg : Nat) : Nat := hg * (wd + 1) - 1
def badS (how wd hg : Nat) (sg : Nat → Int32) (i : Nat) : Bool := decide (duS wd hg ≤ i ∨ ¬ csS how (sg i) (i % (wd + 1) = wd))
def ffS (how wd hg n : Nat) (sg : Nat → Int32) : Int32 := if fb (badS how wd hg sg) n < n then nI (fb (badS how wd hg sg) n) else if n < duS wd hg then nI n else -6
theorem ff_hit {how wd hg n i : Nat} {sg : Nat → Int32} (h : ∀ j, j < i → badS how wd hg sg j = false) (hi : duS wd hg ≤ i ∨ ¬ csS how (sg i) (i % (wd + 1) = wd)) (hn : i < n) : nI i = ffS how wd hg n sg := by
  have e := fb_hit h (i := i) (decide_eq_true hi) hn
  rw [ffS, e, if_pos hn]
theorem ff_none {how wd hg n i : Nat} {sg : Nat → Int32} (h : ∀ j, j < i → badS how wd hg sg j = false) (hn : n ≤ i) : ffS how wd hg n sg = if n < duS wd hg then nI n else -6 := by
  have e := fb_none (P := badS how wd hg sg) (n := n) (fun j hj => h j (by omega))
  rw [ffS, e, if_neg (Nat.lt_irrefl n)]
theorem bad_st {how wd hg i j : Nat} {sg : Nat → Int32} (h : ∀ j, j < i → badS how wd hg sg j = false) (h1 : ¬ duS wd hg ≤ i) (h2 : csS how (sg i) (i % (wd + 1) = wd)) (hj : j < i + 1) : badS how wd hg sg j = false := by
  rcases (show j < i ∨ j = i by omega) with q | rfl
  · exact h j q
  · exact decide_eq_false (fun q => q.elim h1 (fun q2 => q2 h2))
theorem mulN {wd hg : Nat} (h1 : wd ≤ 8) (h2 : hg ≤ 8) : hg * (wd + 1) ≤ 72 := by
  have : hg * (wd + 1) ≤ 8 * 9 := Nat.mul_le_mul h2 (by omega)
  omega
theorem mulL {y wd hg x : Nat} (hx : x < wd) (hy : y < hg) : y * (wd + 1) + x + 1 < hg * (wd + 1) := by
  have : (y + 1) * (wd + 1) ≤ hg * (wd + 1) := Nat.mul_le_mul_right _ (by omega)
  rw [Nat.add_mul, Nat.one_mul] at this
  omega
theorem mul1 {wd hg : Nat} (h : 2 ≤ hg) : 1 ≤ hg * (wd + 1) := by
  have : 2 * 1 ≤ hg * (wd + 1) := Nat.mul_le_mul h (by omega)
  omega
