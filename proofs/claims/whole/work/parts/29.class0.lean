theorem isP_law {G : Gs} {b : Nat} {w w2 : Wd} {k lw v : Nat} {P : Pc} (h : isP G b w k lw P) (hn : w2 k = .inr (3, [.int (nI P.1), .int (nI P.2.1), .int (nI v), .ref (b + (k + 1)), .ref (b + (k + 2))])) (hf : ∀ j, j ≠ k → w2 j = w j) (hv : v < 2) : isP G b w2 k v P := by
  obtain ⟨ga, ma, ⟨_, h1, h2, q1, q2, q3, q4, _⟩, h3⟩ := h
  exact ⟨ga, ma, ⟨hn, (hf _ (by omega)).trans h1, (hf _ (by omega)).trans h2, q1, q2, q3, q4, hv⟩, h3⟩
theorem i_add {x y : Int32} (h1 : 0 ≤ x.toInt) (h2 : x.toInt < 2 ^ 30) (h3 : 0 ≤ y.toInt) (h4 : y.toInt < 2 ^ 30) : (x + y).toInt = x.toInt + y.toInt := by
  obtain ⟨a, ha, rfl, ea⟩ := i2n h1
  obtain ⟨c, hc, rfl, ec⟩ := i2n h3
  rw [nI_add, nI_toInt (by omega), ← ea, ← ec]
  omega
theorem trS_ind {lw : Nat} : ∀ (n a e : Nat) (o : List Nat) (c k : Int32) (P : Pc) (ac ac2 : Acc), a + e = n → ac.2.2.2 = 0 → ac2.2.2.2 = 0 → trS lw n a e o c k P ac = trS lw n a e o c k P ac2
  | 0, _, _, o, c, k, _, ac, ac2, _, h1, h2 => by
    have q : ∀ ac : Acc, ac.2.2.2 = 0 → cmpS ac o c k = (c, o, k, 1) := fun ac h => by
      have h3 : ¬ (0 < ac.2.2.2 ∧ c = ac.1) := fun z => by omega
      rw [cmpS, if_neg h3, if_pos (Or.inl h)]
    rw [trS, trS, q ac h1, q ac2 h2]
  | n + 1, a, e, o, c, k, P, ac, ac2, hn, h1, h2 => by
    rw [trS, trS]
    by_cases ha : 0 < a
    · rw [if_pos ha, if_pos ha, trS_ind n (a - 1) e (o ++ [0]) (c + tA lw P 0) (k + kA lw P 0) (cutP lw P 0) ac ac2 (by omega) h1 h2]
    · rw [if_neg ha, if_neg ha, if_pos (by omega), if_pos (by omega), trS_ind n a (e - 1) (o ++ [1]) (c + tA lw P 1) (k + kA lw P 1) (cutP lw P 1) ac ac2 (by omega) h1 h2]
