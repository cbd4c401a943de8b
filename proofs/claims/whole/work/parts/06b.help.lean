/-! numbers and truth values on the stack -/
def bI (P : Prop) [Decidable P] : Int32 := if P then 1 else 0
theorem bI_t {P : Prop} [Decidable P] (h : P) : (1 : Int32) = bI P := (if_pos h).symm
theorem bI_f {P : Prop} [Decidable P] (h : ¬ P) : (0 : Int32) = bI P := (if_neg h).symm
theorem bI_or (P : Prop) [Decidable P] : bI P = 0 ∨ bI P = 1 := by
  by_cases h : P
  · exact Or.inr (if_pos h)
  · exact Or.inl (if_neg h)
theorem nI_c1 : (1 : Int32) = nI 1 := by decide
theorem nI_c0 : (0 : Int32) = nI 0 := by decide
theorem inc_nI (a : Nat) : nI a + Int32.ofInt 1 = nI (a + 1) := nI_1 a
def nP (t : Nat) : Int32 := nI t - 1
theorem dec_nI (a : Nat) : nI a + Int32.ofInt (-1) = nP a := by
  rw [nP, Int32.sub_eq_add_neg]
  rfl
theorem subP (a : Nat) : nI a - nI 1 = nP a := rfl
theorem nP_succ (u : Nat) : nP (u + 1) = nI u := nI_pred u
theorem nP_pos {t : Nat} (h : 0 < t) : nP t = nI (t - 1) := by
  obtain ⟨u, rfl⟩ : ∃ u, t = u + 1 := ⟨t - 1, by omega⟩
  exact nP_succ u
theorem nP_toInt {t : Nat} (h : t < 2 ^ 31) : (nP t).toInt = (t : Int) - 1 := by
  rcases Nat.eq_zero_or_pos t with rfl | h0
  · decide
  · rw [nP_pos h0, nI_toInt (by omega)]
    omega
theorem addN {a b c : Nat} (h : a + b = c) : nI a + nI b = nI c := by rw [nI_add, h]
theorem minN {a b : Nat} (ha : a < 2 ^ 31) (hb : b < 2 ^ 31) : (if nI b < nI a then nI b else nI a) = nI (min a b) := by
  by_cases h : b < a
  · rw [if_pos ((nI_ltI hb ha).mpr h), Nat.min_eq_right (by omega)]
  · rw [if_neg (fun q => h ((nI_ltI hb ha).mp q)), Nat.min_eq_left (by omega)]
theorem maxN {a b : Nat} (ha : a < 2 ^ 31) (hb : b < 2 ^ 31) : (if nI a < nI b then nI b else nI a) = nI (max a b) := by
  by_cases h : a < b
  · rw [if_pos ((nI_ltI ha hb).mpr h), Nat.max_eq_right (by omega)]
  · rw [if_neg (fun q => h ((nI_ltI ha hb).mp q)), Nat.max_eq_left (by omega)]
theorem maxP {t : Nat} (h : t < 2 ^ 31) : (if nP t < nI 0 then nI 0 else nP t) = nI (t - 1) := by
  rcases Nat.eq_zero_or_pos t with rfl | h0
  · decide
  · rw [nP_pos h0, maxN (by omega) (by omega)]
    simp
theorem i2n {x : Int32} (h : 0 ≤ x.toInt) : ∃ n : Nat, n < 2 ^ 31 ∧ x = nI n ∧ (n : Int) = x.toInt := by
  obtain ⟨n, hn, rfl⟩ := nI_of (x := x) (fun q => absurd (Int32.lt_iff_toInt_lt.mp q) (by simpa using h))
  exact ⟨n, hn, rfl, (nI_toInt hn).symm⟩
section HELP
variable {κ : Kx} {G : Gs} {b : Nat} {cc : ByteArray} {nL : Nat} {own : String} {cx : Cond} {h : Nat} {ν : Nat × Nat × Nat} {w : Wd} {pc pc2 : Nat} {L L2 : List (Option Value)} {st : List Value}
theorem r_ifne_b (X : CX κ G cc nL own cx h) {off : Int} {tgt : Nat} (d : Dc cc pc (.ifCond .ne off) 3 pc2) (ht : (pc : Int) + off = (tgt : Int)) {P : Prop} [Decidable P] (k1 : P → V κ G b ν w tgt L st) (k2 : ¬ P → V κ G b ν w pc2 L st) : V κ G b ν w pc L (.int (bI P) :: st) := by
  by_cases hp : P
  · rw [← bI_t hp]
    exact r_if_ne X d ht (X1 := 1) (by decide) (fun _ => k1 hp) (fun c => absurd c (by decide))
  · rw [← bI_f hp]
    exact r_if_ne X d ht (X1 := 0) (by decide) (fun c => absurd rfl c) (fun c => k2 hp)
theorem r_ifeq_b (X : CX κ G cc nL own cx h) {off : Int} {tgt : Nat} (d : Dc cc pc (.ifCond .eq off) 3 pc2) (ht : (pc : Int) + off = (tgt : Int)) {P : Prop} [Decidable P] (k1 : ¬ P → V κ G b ν w tgt L st) (k2 : P → V κ G b ν w pc2 L st) : V κ G b ν w pc L (.int (bI P) :: st) := by
  by_cases hp : P
  · rw [← bI_t hp]
    exact r_if_eq X d ht (X1 := 1) (by decide) (fun c => absurd c (by decide)) (fun _ => k2 hp)
  · rw [← bI_f hp]
    exact r_if_eq X d ht (X1 := 0) (by decide) (fun _ => k1 hp) (fun c => absurd rfl c)
theorem r_fg (j : Nat) (hl : L.set j none = L2) (k : V κ G b ν w pc L2 st) : V κ G b ν w pc L st := by
  subst hl
  refine fun H locs ls a1 a2 a3 => k H locs ls a1 a2 ⟨by rw [List.length_set]; exact a3.1, a3.2.1, fun i v hv => ?_⟩
  rw [List.getElem?_set] at hv
  by_cases e : j = i
  · rw [if_pos e] at hv
    split at hv <;> cases hv
  · rw [if_neg e] at hv
    exact a3.2.2 i v hv
theorem r_w {w2 : Wd} (e : w = w2) (k : V κ G b ν w2 pc L st) : V κ G b ν w pc L st := by rw [e]; exact k
end HELP
