/-! the order that is found -/
def ordQ (a e : Nat) (o : List Nat) : Prop := o.length = a + e ∧ (∀ x ∈ o, x < 2) ∧ o.count 0 = a ∧ o.count 1 = e
theorem ordQ_nil : ordQ 0 0 [] := ⟨rfl, fun x hx => absurd hx List.not_mem_nil, rfl, rfl⟩
theorem ordQ_0 {a e : Nat} {o : List Nat} (ha : 0 < a) (h : ordQ (a - 1) e o) : ordQ a e (0 :: o) := by
  obtain ⟨h1, h2, h3, h4⟩ := h
  refine ⟨by rw [List.length_cons, h1]; omega, fun x hx => ?_, by rw [List.count_cons_self, h3]; omega, by rw [List.count_cons_of_ne (by decide), h4]⟩
  rcases List.mem_cons.mp hx with rfl | q
  · decide
  · exact h2 x q
theorem ordQ_1 {a e : Nat} {o : List Nat} (he : 0 < e) (h : ordQ a (e - 1) o) : ordQ a e (1 :: o) := by
  obtain ⟨h1, h2, h3, h4⟩ := h
  refine ⟨by rw [List.length_cons, h1]; omega, fun x hx => ?_, by rw [List.count_cons_of_ne (by decide), h3], by rw [List.count_cons_self, h4]; omega⟩
  rcases List.mem_cons.mp hx with rfl | q
  · decide
  · exact h2 x q
theorem cmp_pos {ac : Acc} {o : List Nat} {c k : Int32} : 0 < (cmpS ac o c k).2.2.2 := by
  unfold cmpS
  split
  · exact Nat.succ_pos _
  · split
    · exact Nat.one_pos
    · rename_i h; omega
theorem cmp_ord {ac : Acc} {o : List Nat} {c k : Int32} {Q : List Nat → Prop} (h : Q o) (ha : ac.2.2.2 = 0 ∨ Q ac.2.1) : Q (cmpS ac o c k).2.1 := by
  unfold cmpS
  split
  · rename_i h1
    exact ha.resolve_left (by omega)
  · split
    · exact h
    · rename_i h1
      exact ha.resolve_left (fun q => h1 (Or.inl q))
theorem trS_ord {lw : Nat} {Q : List Nat → Prop} : ∀ (n a e : Nat) (o : List Nat) (c k : Int32) (P : Pc) (ac : Acc), a + e = n → (∀ t, ordQ a e t → Q (o ++ t)) → (ac.2.2.2 = 0 ∨ Q ac.2.1) → 0 < (trS lw n a e o c k P ac).2.2.2 ∧ Q (trS lw n a e o c k P ac).2.1
  | 0, a, e, o, c, k, P, ac, hn, hQ, ha => by
    obtain ⟨rfl, rfl⟩ : a = 0 ∧ e = 0 := by omega
    have h := hQ [] ordQ_nil
    rw [List.append_nil] at h
    exact ⟨cmp_pos, cmp_ord h ha⟩
  | n + 1, a, e, o, c, k, P, ac, hn, hQ, ha => by
    have h0 : 0 < a → 0 < (trS lw n (a - 1) e (o ++ [0]) (c + tA lw P 0) (k + kA lw P 0) (cutP lw P 0) ac).2.2.2 ∧ Q (trS lw n (a - 1) e (o ++ [0]) (c + tA lw P 0) (k + kA lw P 0) (cutP lw P 0) ac).2.1 := fun h =>
      trS_ord n (a - 1) e _ _ _ _ ac (by omega) (fun t ht => by rw [List.append_assoc]; exact hQ _ (ordQ_0 h ht)) ha
    rw [trS]
    by_cases he : 0 < e
    · rw [if_pos he]
      refine trS_ord n a (e - 1) _ _ _ _ _ (by omega) (fun t ht => by rw [List.append_assoc]; exact hQ _ (ordQ_1 he ht)) ?_
      by_cases h : 0 < a
      · rw [if_pos h]; exact Or.inr (h0 h).2
      · rw [if_neg h]; exact ha
    · rw [if_neg he, if_pos (by omega)]
      exact h0 (by omega)
theorem bs_ord {lw : Nat} {P : Pc} {a e : Nat} : 0 < (bsA lw P a e).2.2.2 ∧ ordQ a e (bsA lw P a e).2.1 := trS_ord (Q := ordQ a e) (a + e) a e [] 0 0 P (0, [], 0, 0) rfl (fun t ht => ht) (Or.inl rfl)
theorem enc_bit : ∀ (o : List Nat) (i : Nat), (∀ x ∈ o, x < 2) → enc o / 2 ^ i % 2 = o.getD i 0
  | [], i, _ => by simp [enc]
  | x :: t, 0, h => by
    have hx := h x List.mem_cons_self
    simp only [enc, Nat.pow_zero, Nat.div_one, List.getD_cons_zero]
    omega
  | x :: t, i + 1, h => by
    have hx := h x List.mem_cons_self
    have ih := enc_bit t i (fun y hy => h y (List.mem_cons_of_mem _ hy))
    have e : (x + 2 * enc t) / 2 = enc t := by omega
    simp only [enc, List.getD_cons_succ]
    rw [Nat.pow_succ, Nat.mul_comm (2 ^ i) 2, ← Nat.div_div_eq_div_mul, e]
    exact ih
theorem bit_tab : ∀ v, v < 64 → ∀ i, i < 6 → (nI v >>> (nI i &&& 31)) &&& nI 1 = nI (v / 2 ^ i % 2) := by decide +kernel
theorem bit_of {o : List Nat} {a e i : Nat} (h : ordQ a e o) (h6 : a + e ≤ 6) (hi : i < a + e) : (nI (enc o) >>> (nI i &&& 31)) &&& nI 1 = nI (o.getD i 0) := by
  have h1 := enc_lt o h.2.1
  have h2 : 2 ^ o.length ≤ 2 ^ 6 := Nat.pow_le_pow_right (by decide) (by rw [h.1]; exact h6)
  rw [bit_tab _ (by omega) i (by omega), enc_bit o i h.2.1]
theorem getD_lt {o : List Nat} {i : Nat} (h : ∀ x ∈ o, x < 2) : o.getD i 0 < 2 := by
  rw [List.getD_eq_getElem?_getD]
  cases hq : o[i]? with
  | none => decide
  | some x => exact h x (List.mem_of_getElem? hq)
theorem take_st {o : List Nat} {i : Nat} (hi : i < o.length) : o.take (i + 1) = o.take i ++ [o.getD i 0] := by
  rw [List.take_succ, List.getD_eq_getElem?_getD, List.getElem?_eq_getElem hi]
  rfl
theorem runP_app {lw : Nat} : ∀ (o t : List Nat) (P : Pc), runP lw P (o ++ t) = runP lw (runP lw P o) t
  | [], _, _ => rfl
  | x :: o, t, P => runP_app o t (cutP lw P x)
theorem runP_st {lw : Nat} {P : Pc} {o : List Nat} {i : Nat} (hi : i < o.length) : runP lw P (o.take (i + 1)) = cutP lw (runP lw P (o.take i)) (o.getD i 0) := by
  rw [take_st hi, runP_app]
  rfl
theorem runP_dim {lw : Nat} : ∀ (o : List Nat) (P : Pc), (∀ x ∈ o, x < 2) → (runP lw P o).1 = P.1 - o.count 0 ∧ (runP lw P o).2.1 = P.2.1 - o.count 1
  | [], P, _ => ⟨rfl, rfl⟩
  | x :: o, P, h => by
    have hx := h x List.mem_cons_self
    have ih := runP_dim (lw := lw) o (cutP lw P x) (fun y hy => h y (List.mem_cons_of_mem _ hy))
    rw [runP, ih.1, ih.2]
    rcases way_or hx with rfl | rfl
    · rw [List.count_cons_self, List.count_cons_of_ne (by decide)]
      exact ⟨by show P.1 - 1 - _ = _; omega, rfl⟩
    · rw [List.count_cons_self, List.count_cons_of_ne (by decide)]
      exact ⟨rfl, by show P.2.1 - 1 - _ = _; omega⟩
theorem run_nb {lw : Nat} {P : Pc} {o : List Nat} {a e i : Nat} (h : ordQ a e o) (hi : i < a + e) (ha : a + 2 ≤ P.1) (he : e + 2 ≤ P.2.1) : 2 < nbP (runP lw P (o.take i)) (o.getD i 0) := by
  have hl : i < o.length := by rw [h.1]; exact hi
  have hm : ∀ x ∈ o.take i, x < 2 := fun x hx => h.2.1 x (List.mem_of_mem_take hx)
  have hd := runP_dim (lw := lw) (o.take i) P hm
  have hc : ∀ x, (o.take (i + 1)).count x ≤ o.count x := fun x => (List.take_sublist _ _).count_le x
  have h2 := getD_lt (i := i) h.2.1
  have c0 := hc 0
  have c1 := hc 1
  rw [take_st hl, List.count_append] at c0 c1
  rw [h.2.2.1] at c0
  rw [h.2.2.2] at c1
  rcases way_or h2 with q | q
  · rw [q] at c0 ⊢
    rw [List.count_singleton_self] at c0
    show 2 < (runP lw P (o.take i)).1
    omega
  · rw [q] at c1 ⊢
    rw [List.count_singleton_self] at c1
    show 2 < (runP lw P (o.take i)).2.1
    omega
