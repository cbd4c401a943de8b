theorem ff_neg {how wd hg n : Nat} {sg : Nat → Int32} (hn : n ≤ 80) (h : (ffS how wd hg n sg).toInt < 0) : ffS how wd hg n sg = -6 ∧ n = duS wd hg := by
  by_cases c : fb (badS how wd hg sg) n < n
  · rw [ffS, if_pos c, nI_toInt (by omega)] at h
    omega
  · by_cases c2 : n < duS wd hg
    · rw [ffS, if_neg c, if_pos c2, nI_toInt (by omega)] at h
      omega
    · refine ⟨by rw [ffS, if_neg c, if_neg c2], ?_⟩
      rcases Nat.lt_or_ge (duS wd hg) n with q | q
      · have e : ∃ i, i < n ∧ fb (badS how wd hg sg) n ≤ i ∧ i = duS wd hg := by
          by_cases z : ∃ j, j < duS wd hg ∧ badS how wd hg sg j = true
          · exfalso
            obtain ⟨j, hj, hb⟩ := z
            obtain ⟨k, hk1, hk2⟩ := pk_least (fun j => badS how wd hg sg j = true) ⟨j, hb⟩
            have hkj : k ≤ j := Nat.not_lt.mp (fun q => hk2 j q hb)
            have := fb_hit (P := badS how wd hg sg) (i := k) (fun j hj => by simpa using hk2 j hj) hk1 (n := n) (by omega)
            omega
          · have hz : ∀ j, j < duS wd hg → badS how wd hg sg j = false := fun j hj => by
              cases hb : badS how wd hg sg j with
              | false => rfl
              | true => exact absurd ⟨j, hj, hb⟩ z
            have := fb_hit (P := badS how wd hg sg) (i := duS wd hg) hz (decide_eq_true (Or.inl (Nat.le_refl _))) (n := n) q
            exact ⟨duS wd hg, q, by omega, rfl⟩
        obtain ⟨i, h1, h2, h3⟩ := e
        omega
      · omega
theorem dm_1 {w k : Nat} : k / (w + 1) * (w + 1) + k % (w + 1) = k := by
  rw [Nat.mul_comm]; exact Nat.div_add_mod k (w + 1)
theorem dm_2 {w x y : Nat} (hx : x < w + 1) : (y * (w + 1) + x) / (w + 1) = y ∧ (y * (w + 1) + x) % (w + 1) = x := by
  constructor
  · rw [Nat.mul_comm, Nat.mul_add_div (by omega), Nat.div_eq_of_lt hx, Nat.add_zero]
  · rw [Nat.mul_comm, Nat.mul_add_mod, Nat.mod_eq_of_lt hx]
theorem dm_3 {w h k : Nat} (hk : k < duS w h) : k / (w + 1) < h := by
  rw [Nat.div_lt_iff_lt_mul (by omega)]
  have : duS w h = h * (w + 1) - 1 := rfl
  omega
/-- the row of the state as far as the sign k is laid -/
def LyI (base : Nat) (P : Pc) (U : Nat → Int32) (st : Nat → Int32) (k : Nat) (A : Nat → Int32) : Prop := (∀ x y, x < 8 → y < 8 → A (base + (8 * y + x)) = if x < P.1 ∧ y < P.2.1 ∧ y * (P.1 + 1) + x < k then U (y * (P.1 + 1) + x) else st (base + (8 * y + x))) ∧ ∀ j, (j < base ∨ base + 64 ≤ j) → A j = st j
theorem LyI_sk {base : Nat} {P : Pc} {U st A : Nat → Int32} {k : Nat} (h : LyI base P U st k A) (hk : k % (P.1 + 1) = P.1) : LyI base P U st (k + 1) A := by
  refine ⟨fun x y hx hy => ?_, h.2⟩
  rw [h.1 x y hx hy]
  by_cases c : x < P.1 ∧ y < P.2.1 ∧ y * (P.1 + 1) + x < k
  · rw [if_pos c, if_pos ⟨c.1, c.2.1, by omega⟩]
  · rw [if_neg c, if_neg (fun q => c ⟨q.1, q.2.1, by
      have h1 := q.2.2
      rcases Nat.lt_or_ge (y * (P.1 + 1) + x) k with z | z
      · exact z
      · have e : y * (P.1 + 1) + x = k := by omega
        have h2 := (dm_2 (w := P.1) (x := x) (y := y) (by omega)).2
        rw [e, hk] at h2
        omega⟩)]
theorem LyI_st {base : Nat} {P : Pc} {U st A : Nat → Int32} {k : Nat} (h8 : P.1 ≤ 8) (h9 : P.2.1 ≤ 8) (h : LyI base P U st k A) (hk : k % (P.1 + 1) ≠ P.1) (hd : k < duS P.1 P.2.1) : LyI base P U st (k + 1) (upd A (base + (8 * (k / (P.1 + 1)) + k % (P.1 + 1))) (U k)) := by
  have m1 := Nat.mod_lt k (show 0 < P.1 + 1 by omega)
  have m2 := dm_3 hd
  have m3 := dm_1 (w := P.1) (k := k)
  refine ⟨fun x y hx hy => ?_, fun j hj => by rw [upd_ne (by omega)]; exact h.2 j hj⟩
  by_cases e : x = k % (P.1 + 1) ∧ y = k / (P.1 + 1)
  · obtain ⟨rfl, rfl⟩ := e
    rw [upd_self, if_pos ⟨by omega, by omega, by omega⟩, m3]
  · rw [upd_ne (by omega), h.1 x y hx hy]
    by_cases c : x < P.1 ∧ y < P.2.1 ∧ y * (P.1 + 1) + x < k
    · rw [if_pos c, if_pos ⟨c.1, c.2.1, by omega⟩]
    · rw [if_neg c, if_neg (fun q => c ⟨q.1, q.2.1, by
        have h1 := q.2.2
        rcases Nat.lt_or_ge (y * (P.1 + 1) + x) k with z | z
        · exact z
        · have e2 : y * (P.1 + 1) + x = k := by omega
          have h2 := dm_2 (w := P.1) (x := x) (y := y) (by omega)
          rw [e2] at h2
          exact absurd ⟨h2.2.symm, h2.1.symm⟩ e⟩)]
theorem lay_sum {F : Nat → Int32} {g : Nat → Nat → Int32} {w : Nat} : ∀ (h : Nat), (∀ y x, y < h → x < w → F (y * (w + 1) + x) = g x y) → (∀ y, y < h → F (y * (w + 1) + w) = 0) → sm F (h * (w + 1)) = sm (fun y => sm (fun x => g x y) w) h
  | 0, _, _ => by rw [Nat.zero_mul]; rfl
  | n + 1, h1, h2 => by
    have e : ∀ k, k ≤ w → sm F (n * (w + 1) + k) = sm F (n * (w + 1)) + sm (fun x => g x n) k := by
      intro k hk
      induction k with
      | zero => exact (Int32.add_zero _).symm
      | succ k ih => rw [← Nat.add_assoc, sm, ih (by omega), h1 n k (by omega) (by omega), Int32.add_assoc]; rfl
    rw [show (n + 1) * (w + 1) = n * (w + 1) + w + 1 by rw [Nat.add_mul]; omega, sm, e w (Nat.le_refl w), h2 n (by omega), Int32.add_zero, lay_sum n (fun y x hy hx => h1 y x (by omega) hx) (fun y hy => h2 y (by omega))]
    rfl
theorem lay_end {F : Nat → Int32} {g : Nat → Nat → Int32} {w h : Nat} (hh : 0 < h) (h1 : ∀ y x, y < h → x < w → F (y * (w + 1) + x) = g x y) (h2 : ∀ y, y < h → F (y * (w + 1) + w) = 0) : sm F (duS w h) = sm (fun y => sm (fun x => g x y) w) h := by
  rw [← lay_sum h h1 h2]
  obtain ⟨k, rfl⟩ : ∃ k, h = k + 1 := ⟨h - 1, by omega⟩
  have e : (k + 1) * (w + 1) = duS w (k + 1) + 1 := by
    have : duS w (k + 1) = (k + 1) * (w + 1) - 1 := rfl
    have h3 : (k + 1) * (w + 1) = k * (w + 1) + (w + 1) := by rw [Nat.add_mul, Nat.one_mul]
    omega
  have e2 : duS w (k + 1) = k * (w + 1) + w := by
    have : duS w (k + 1) = (k + 1) * (w + 1) - 1 := rfl
    have h3 : (k + 1) * (w + 1) = k * (w + 1) + (w + 1) := by rw [Nat.add_mul, Nat.one_mul]
    omega
  rw [e, sm, e2, h2 k (by omega), Int32.add_zero]
def FLy (how : Nat) (P : Pc) (sg : Nat → Int32) (k : Nat) : Int32 := if k % (P.1 + 1) = P.1 then 0 else if (if how = 0 then P.2.2.1 (k % (P.1 + 1)) (k / (P.1 + 1)) else P.2.2.2 (k % (P.1 + 1)) (k / (P.1 + 1))) = vS how (sg k) then 0 else 1
theorem FLy_sum {how : Nat} {P : Pc} {sg : Nat → Int32} (hP : okPc P) : sm (FLy how P sg) (duS P.1 P.2.1) = layC P sg how := by
  obtain ⟨a, b, c, d⟩ := hP
  refine lay_end (by omega) (fun y x hy hx => ?_) (fun y hy => ?_)
  · have h := dm_2 (w := P.1) (x := x) (y := y) (by omega)
    rw [FLy, h.1, h.2, if_neg (by omega)]
  · have h := dm_2 (w := P.1) (x := P.1) (y := y) (by omega)
    rw [FLy, h.2, if_pos rfl]
theorem Ly0_end {P : Pc} {sg st A : Nat → Int32} {lw k : Nat} (h : stI st lw P) (hk : k = duS P.1 P.2.1) (H : LyI 0 P (fun k => vS 0 (sg k)) st k A) : stI A lw (layP P sg 0) := by
  obtain ⟨h1, h2, h3, h4, ⟨a, b, c, d⟩, h6⟩ := h
  refine ⟨fun x y hx hy => ⟨?_, (H.2 _ (by omega)).trans (h1 x y hx hy).2⟩, (H.2 _ (by omega)).trans h2, (H.2 _ (by omega)).trans h3, (H.2 _ (by omega)).trans h4, ⟨a, b, c, d⟩, h6⟩
  have h7 := H.1 x y hx hy
  rw [Nat.zero_add] at h7
  show A (8 * y + x) = if x < P.1 ∧ y < P.2.1 then vS 0 (sg (y * (P.1 + 1) + x)) else 0
  by_cases q : x < P.1 ∧ y < P.2.1
  · have m := mulL (wd := P.1) (hg := P.2.1) q.1 q.2
    have du : duS P.1 P.2.1 = P.2.1 * (P.1 + 1) - 1 := rfl
    rw [h7, if_pos ⟨q.1, q.2, by omega⟩, if_pos q]
  · rw [h7, if_neg (fun z => q ⟨z.1, z.2.1⟩), if_neg q, (h1 x y hx hy).1, if_neg q]
theorem Ly1_end {P : Pc} {sg st A : Nat → Int32} {lw k : Nat} (h : stI st lw P) (hk : k = duS P.1 P.2.1) (H : LyI 64 P (fun k => vS 1 (sg k)) st k A) : stI A lw (layP P sg 1) := by
  obtain ⟨h1, h2, h3, h4, ⟨a, b, c, d⟩, h6⟩ := h
  refine ⟨fun x y hx hy => ⟨(H.2 _ (by omega)).trans (h1 x y hx hy).1, ?_⟩, (H.2 _ (by omega)).trans h2, (H.2 _ (by omega)).trans h3, (H.2 _ (by omega)).trans h4, ⟨a, b, c, d⟩, h6⟩
  have h7 := H.1 x y hx hy
  show A (64 + (8 * y + x)) = if x < P.1 ∧ y < P.2.1 then vS 1 (sg (y * (P.1 + 1) + x)) else 0
  by_cases q : x < P.1 ∧ y < P.2.1
  · have m := mulL (wd := P.1) (hg := P.2.1) q.1 q.2
    have du : duS P.1 P.2.1 = P.2.1 * (P.1 + 1) - 1 := rfl
    rw [h7, if_pos ⟨q.1, q.2, by omega⟩, if_pos q]
  · rw [h7, if_neg (fun z => q ⟨z.1, z.2.1⟩), if_neg q, (h1 x y hx hy).2, if_neg q]
