/-! orders -/
def enc : List Nat → Nat
  | [] => 0
  | x :: t => x + 2 * enc t
theorem enc_snoc (o : List Nat) (x : Nat) : enc (o ++ [x]) = enc o + x * 2 ^ o.length := by
  induction o with
  | nil => simp [enc]
  | cons a t ih =>
    simp only [List.cons_append, enc, ih, List.length_cons, Nat.pow_succ]
    rw [Nat.mul_add, Nat.add_assoc, Nat.mul_comm (2 ^ t.length) 2, ← Nat.mul_assoc, ← Nat.mul_assoc, Nat.mul_comm 2 x]
theorem enc_lt (o : List Nat) (h : ∀ x ∈ o, x < 2) : enc o < 2 ^ o.length := by
  induction o with
  | nil => simp [enc]
  | cons a t ih =>
    have h1 := h a List.mem_cons_self
    have h2 := ih (fun x hx => h x (List.mem_cons_of_mem _ hx))
    simp only [enc, List.length_cons, Nat.pow_succ]
    omega
theorem or_tab : ∀ d, d < 6 → ∀ e, e < 32 → e < 2 ^ d → ∀ x, x < 2 → nI e ||| (nI x <<< (nI d &&& 31)) = nI (e + x * 2 ^ d) := by decide +kernel
theorem enc_or {o : List Nat} {d x : Nat} (hd : o.length = d) (ho : ∀ x ∈ o, x < 2) (hx : x < 2) (h6 : d < 6) : nI (enc o) ||| (nI x <<< (nI d &&& 31)) = nI (enc (o ++ [x])) := by
  have h := enc_lt o ho
  rw [hd] at h
  have h5 : 2 ^ d ≤ 2 ^ 5 := Nat.pow_le_pow_right (by decide) (by omega)
  rw [or_tab d h6 (enc o) (by omega) h x hx, enc_snoc, hd]
/-- what was found so far: the least cost, its order, the kept dots cut by it, how many orders have that cost -/
abbrev Acc : Type := Int32 × List Nat × Int32 × Nat
def cmpS (ac : Acc) (o : List Nat) (c k : Int32) : Acc := if 0 < ac.2.2.2 ∧ c = ac.1 then (ac.1, ac.2.1, ac.2.2.1, ac.2.2.2 + 1) else if ac.2.2.2 = 0 ∨ c < ac.1 then (c, o, k, 1) else ac
def trS (lw : Nat) : Nat → Nat → Nat → List Nat → Int32 → Int32 → Pc → Acc → Acc
  | 0, _, _, o, c, k, _, ac => cmpS ac o c k
  | n + 1, a, e, o, c, k, P, ac =>
    if 0 < e then trS lw n a (e - 1) (o ++ [1]) (c + tA lw P 1) (k + kA lw P 1) (cutP lw P 1) (if 0 < a then trS lw n (a - 1) e (o ++ [0]) (c + tA lw P 0) (k + kA lw P 0) (cutP lw P 0) ac else ac)
    else (if 0 < a then trS lw n (a - 1) e (o ++ [0]) (c + tA lw P 0) (k + kA lw P 0) (cutP lw P 0) ac else ac)
theorem trS_11 {lw n a e : Nat} {o : List Nat} {c k : Int32} {P : Pc} {ac : Acc} (ha : 0 < a) (he : 0 < e) : trS lw n (a - (1 - 1)) (e - 1) (o ++ [1]) (c + tA lw P 1) (k + kA lw P 1) (cutP lw P 1) (trS lw n (a - (1 - 0)) (e - 0) (o ++ [0]) (c + tA lw P 0) (k + kA lw P 0) (cutP lw P 0) ac) = trS lw (n + 1) a e o c k P ac := by
  rw [trS, if_pos he, if_pos ha]; rfl
theorem trS_10 {lw n a : Nat} {o : List Nat} {c k : Int32} {P : Pc} {ac : Acc} (ha : 0 < a) : trS lw n (a - (1 - 0)) (0 - 0) (o ++ [0]) (c + tA lw P 0) (k + kA lw P 0) (cutP lw P 0) ac = trS lw (n + 1) a 0 o c k P ac := by
  rw [trS, if_neg (Nat.lt_irrefl 0), if_pos ha]
theorem trS_01 {lw n e : Nat} {o : List Nat} {c k : Int32} {P : Pc} {ac : Acc} (he : 0 < e) : trS lw n (0 - (1 - 1)) (e - 1) (o ++ [1]) (c + tA lw P 1) (k + kA lw P 1) (cutP lw P 1) ac = trS lw (n + 1) 0 e o c k P ac := by
  rw [trS, if_pos he, if_neg (Nat.lt_irrefl 0)]
theorem cmp_cnt {ac : Acc} {o : List Nat} {c k : Int32} : (cmpS ac o c k).2.2.2 ≤ ac.2.2.2 + 1 := by
  unfold cmpS
  split
  · exact Nat.le_refl _
  · split
    · show 1 ≤ ac.2.2.2 + 1; omega
    · omega
theorem trS_cnt {lw : Nat} : ∀ (n a e : Nat) (o : List Nat) (c k : Int32) (P : Pc) (ac : Acc), (trS lw n a e o c k P ac).2.2.2 ≤ ac.2.2.2 + 2 ^ n
  | 0, _, _, _, _, _, _, _ => cmp_cnt
  | n + 1, a, e, o, c, k, P, ac => by
    have h1 : (if 0 < a then trS lw n (a - 1) e (o ++ [0]) (c + tA lw P 0) (k + kA lw P 0) (cutP lw P 0) ac else ac).2.2.2 ≤ ac.2.2.2 + 2 ^ n := by
      split
      · exact trS_cnt n _ _ _ _ _ _ _
      · exact Nat.le_add_right _ _
    have hpw : 1 ≤ 2 ^ n := Nat.one_le_two_pow
    rw [trS, Nat.pow_succ]
    split
    · have := trS_cnt (lw := lw) n a (e - 1) (o ++ [1]) (c + tA lw P 1) (k + kA lw P 1) (cutP lw P 1) (if 0 < a then trS lw n (a - 1) e (o ++ [0]) (c + tA lw P 0) (k + kA lw P 0) (cutP lw P 0) ac else ac)
      omega
    · omega
/-- the search's own cell -/
abbrev osF (b ko : Nat) (ac : Acc) : va_E := .inr (1, [.int ac.1, .int (nI (enc ac.2.1)), .int ac.2.2.1, .int (nI ac.2.2.2), .ref (b + (ko + 1)), .ref (b + (ko + 23))])
def osW (G : Gs) (b : Nat) (w : Wd) (ko : Nat) : Prop := w (ko + 1) = aP G 7 (fun i => some (b + (ko + 3 * i + 2))) ∧ (∀ i, i < 7 → ∃ lw P, isP G b w (ko + 3 * i + 2) lw P) ∧ ∃ way tot pl ce go, isSm G b w (ko + 23) way tot pl ce go
theorem isP.obj {G : Gs} {b : Nat} {w : Wd} {k lw : Nat} {P : Pc} (h : isP G b w k lw P) : w k = .inr (3, [.int (nI P.1), .int (nI P.2.1), .int (nI lw), .ref (b + (k + 1)), .ref (b + (k + 2))]) := by
  obtain ⟨ga, ma, h1, _⟩ := h
  exact h1.1
theorem all_set {G : Gs} {b : Nat} {w w2 : Wd} {ko i0 kn lw : Nat} {P : Pc} (H : ∀ i, i < 7 → ∃ lw P, isP G b w (ko + 3 * i + 2) lw P) (hkn : kn = ko + 3 * i0 + 2) (hn : isP G b w2 kn lw P) (hf : ∀ j, (j < kn ∨ kn + 3 ≤ j) → w2 j = w j) : ∀ i, i < 7 → ∃ lw P, isP G b w2 (ko + 3 * i + 2) lw P := by
  intro i hi
  by_cases e : i = i0
  · subst e
    exact ⟨lw, P, hkn ▸ hn⟩
  · obtain ⟨l2, P2, h⟩ := H i hi
    exact ⟨l2, P2, h.fr (fun j h1 h2 => hf j (by omega))⟩
theorem all_fr {G : Gs} {b : Nat} {w w2 : Wd} {ko : Nat} (H : ∀ i, i < 7 → ∃ lw P, isP G b w (ko + 3 * i + 2) lw P) (hf : ∀ j, ko + 2 ≤ j → j < ko + 23 → w2 j = w j) : ∀ i, i < 7 → ∃ lw P, isP G b w2 (ko + 3 * i + 2) lw P := by
  intro i hi
  obtain ⟨l2, P2, h⟩ := H i hi
  exact ⟨l2, P2, h.fr (fun j h1 h2 => hf j (by omega) (by omega))⟩
theorem pre_st {o : List Nat} {x : Nat} (h : ∀ y ∈ o, y < 2) (hx : x < 2) : ∀ y ∈ o ++ [x], y < 2 := fun y hy => by
  rcases List.mem_append.mp hy with q | q
  · exact h y q
  · rw [List.mem_singleton.mp q]; exact hx
