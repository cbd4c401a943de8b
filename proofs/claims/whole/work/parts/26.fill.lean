set_option maxHeartbeats 4000000 in
set_option maxRecDepth 100000 in
theorem c_X0_fillTo (l : Launch) (G : Gs) (b N : Nat) (w : Wd) (kt : Nat) (hkt : kt + 32 ≤ N) (hct : ctW G b w kt) (k : Nat) (hk : k + 3 ≤ N) (hdj : k + 3 ≤ kt ∨ kt + 32 ≤ k) (lw : Nat) (P : Pc) (hp : isP G b w k lw P) (a e : Nat) (ha : a + 2 ≤ P.1) (he : e + 2 ≤ P.2.1) (h6 : a + e ≤ 6) : CV l yX0_fillTo cX0_fillTo 6 6 G b N w [.ref (b + kt), .ref (b + k), .int (nI a), .int (nI e)] (fun w2 => (∃ cs, w2 (kt + 23) = aI G 7 cs ∧ cs e = (tb lw P a e).1) ∧ isP G b w2 (kt + 3 * e + 2) lw (tb lw P a e).2 ∧ ctW G b w2 kt ∧ ∀ j, (j < kt ∨ kt + 32 ≤ j) → w2 j = w j) := by
  obtain ⟨ht, hr, hall0, ⟨cs0, hc⟩, h240, h280⟩ := hct
  obtain ⟨lw0, P0, hp0⟩ := hall0 0 (by omega)
  refine CV_of (L0 := [some (.ref (b + kt)), some (.ref (b + k)), some (.int (nI a)), some (.int (nI e)), none, none]) (by decide) rfl (by simp [Value.category]) rfl (Nat.le_of_ble_eq_true rfl) (fun κ X ret => ?_)
  have fr_w : ∀ j, (j < kt ∨ kt + 32 ≤ j) → w j = w j := fun _ _ => rfl
  refine r_aload_n X eX0_fillTo_0 rfl ?_
  refine gf_X0_11 X eX0_fillTo_1 (by omega) ht ?_
  refine r_iconst X eX0_fillTo_4 (nI 0) (by decide) ?_
  refine r_aald (a := b + (kt + 3 * 0 + 2)) X eX0_fillTo_5 (by omega) hr (by omega) (by decide) rfl ?_
  refine r_aload_n X eX0_fillTo_6 rfl ?_
  refine cv_X0_32 X eX0_fillTo_7 (p_copyFrom _ G b N w (kt + 3 * 0 + 2) (by omega) lw0 P0 hp0 k (by omega) (by omega) lw P hp) (by decide) (by omega) hp0.obj rfl (Nat.le_of_ble_eq_true rfl) (fun w1 hp1 => ?_)
  obtain ⟨hq0, g1⟩ := hp1
  have ht_w1 := (g1 kt (by omega)).trans ht
  have hr_w1 := (g1 (kt + 1) (by omega)).trans hr
  have hc_w1 := (g1 (kt + 23) (by omega)).trans hc
  have fr_w1 : ∀ j, (j < kt ∨ kt + 32 ≤ j) → w1 j = w j := fun j hj => (g1 j (by omega)).trans (fr_w j hj)
  have hall1 := all_st (w2 := w1) (jj := 0) hall0 hq0 (fun j h1 h2 h3 => g1 j (by omega))
  have h24a := h240.fr (w2 := w1) (fun j h1 h2 => g1 j (by omega))
  have h28a := h280.fr (w2 := w1) (fun j h1 h2 => g1 j (by omega))
  refine r_aload_n X eX0_fillTo_10 rfl ?_
  refine gf_X0_18 X eX0_fillTo_11 (by omega) ht_w1 ?_
  refine r_iconst X eX0_fillTo_14 (nI 0) (by decide) ?_
  refine r_iconst X eX0_fillTo_15 ((0 : Int32)) (by decide) ?_
  refine r_iast X eX0_fillTo_16 (by omega) hc_w1 (by omega) (by decide) (fun w2 n2_w2 uu2 => ?_)
  have ht_w2 := (uu2 kt (by omega)).trans ht_w1
  have hr_w2 := (uu2 (kt + 1) (by omega)).trans hr_w1
  have fr_w2 : ∀ j, (j < kt ∨ kt + 32 ≤ j) → w2 j = w j := fun j hj => (uu2 j (by omega)).trans (fr_w1 j hj)
  refine r_iconst X eX0_fillTo_17 (nI 1) (by decide) ?_
  refine r_istore X eX0_fillTo_18 (Nat.le_of_ble_eq_true rfl) (L2 := [some (.ref (b + kt)), some (.ref (b + k)), some (.int (nI a)), some (.int (nI e)), some (.int (nI 1)), none]) rfl ?_
  have lp3 : ∀ (fu : Nat) (u : Nat) (cs : Nat → Int32) (w3 : Wd), (u ≤ e) → (RowI G b w3 kt lw cs (fun x => x ≤ u) (fun x => tb lw P 0 x)) → (∀ i, i < 7 → ∃ lw P, isP G b w3 (kt + 3 * i + 2) lw P) → (anySm G b w3 (kt + 24)) → (anySm G b w3 (kt + 28)) → (w3 kt = .inr (0, [.ref (b + (kt + 1)), .ref (b + (kt + 23)), .ref (b + (kt + 24)), .ref (b + (kt + 28))])) → (w3 (kt + 1) = aP G 7 (fun i => some (b + (kt + 3 * i + 2)))) → (w3 (kt + 23) = aI G 7 cs) → (∀ j, (j < kt ∨ kt + 32 ≤ j) → w3 j = w j) → e - u < fu → V κ G b (N, 0, 0) w3 20 [some (.ref (b + kt)), some (.ref (b + k)), some (.int (nI a)), some (.int (nI e)), some (.int (nI (u + 1))), none] [] := by
    intro fu
    induction fu with
    | zero => intro u cs w3 hu hrow hall hs24 hs28 ht_w3 hr_w3 n2_w3 fr_w3 hm; exact absurd hm (Nat.not_lt_zero _)
    | succ fu ih3 =>
      intro u cs w3 hu hrow hall hs24 hs28 ht_w3 hr_w3 n2_w3 fr_w3 hm
      refine r_iload X eX0_fillTo_20 rfl ?_
      refine r_iload_n X eX0_fillTo_22 rfl ?_
      refine r_icmp_gt (tgt := 55) X eX0_fillTo_23 (by decide) (nI_toInt (by omega)) (nI_toInt (by omega)) (fun c_4 => ?_) (fun c_4 => ?_)
      ·
        refine r_iconst X eX0_fillTo_55 (nI 1) (by decide) ?_
        refine r_istore X eX0_fillTo_56 (Nat.le_of_ble_eq_true rfl) (L2 := [some (.ref (b + kt)), some (.ref (b + k)), some (.int (nI a)), some (.int (nI e)), some (.int (nI 1)), none]) rfl ?_
        have lp5 : ∀ (fu : Nat) (v : Nat) (cs : Nat → Int32) (w5 : Wd), (v ≤ a) → (RowI G b w5 kt lw cs (fun x => x ≤ e) (fun x => tb lw P v x)) → (∀ i, i < 7 → ∃ lw P, isP G b w5 (kt + 3 * i + 2) lw P) → (anySm G b w5 (kt + 24)) → (anySm G b w5 (kt + 28)) → (w5 kt = .inr (0, [.ref (b + (kt + 1)), .ref (b + (kt + 23)), .ref (b + (kt + 24)), .ref (b + (kt + 28))])) → (w5 (kt + 1) = aP G 7 (fun i => some (b + (kt + 3 * i + 2)))) → (w5 (kt + 23) = aI G 7 cs) → (∀ j, (j < kt ∨ kt + 32 ≤ j) → w5 j = w j) → a - v < fu → V κ G b (N, 0, 0) w5 58 [some (.ref (b + kt)), some (.ref (b + k)), some (.int (nI a)), some (.int (nI e)), some (.int (nI (v + 1))), none] [] := by
          intro fu
          induction fu with
          | zero => intro v cs w5 hv hrow hall hs24 hs28 ht_w5 hr_w5 n2_w5 fr_w5 hm; exact absurd hm (Nat.not_lt_zero _)
          | succ fu ih5 =>
            intro v cs w5 hv hrow hall hs24 hs28 ht_w5 hr_w5 n2_w5 fr_w5 hm
            refine r_iload X eX0_fillTo_58 rfl ?_
            refine r_iload_n X eX0_fillTo_60 rfl ?_
            refine r_icmp_gt (tgt := 110) X eX0_fillTo_61 (by decide) (nI_toInt (by omega)) (nI_toInt (by omega)) (fun c_6 => ?_) (fun c_6 => ?_)
            ·
              exact ret _ _ _ _ eX0_fillTo_110 (⟨⟨cs, n2_w5, by rw [(hrow e (by omega)).2, show v = a by omega]⟩, by rw [← show v = a by omega]; exact (hrow e (by omega)).1, ⟨ht_w5, hr_w5, hall, ⟨cs, n2_w5⟩, hs24, hs28⟩, fr_w5⟩)
            ·
              refine r_aload_n X eX0_fillTo_64 rfl ?_
              refine gf_X0_25 X eX0_fillTo_65 (by omega) ht_w5 ?_
              refine r_aload_n X eX0_fillTo_68 rfl ?_
              refine gf_X0_11 X eX0_fillTo_69 (by omega) ht_w5 ?_
              refine r_iconst X eX0_fillTo_72 (nI 0) (by decide) ?_
              refine r_aald (a := b + (kt + 3 * 0 + 2)) X eX0_fillTo_73 (by omega) hr_w5 (by omega) (by decide) rfl ?_
              refine r_iconst X eX0_fillTo_74 (nI 0) (by decide) ?_
              obtain ⟨wu, tu, plu, ceu, gou, hsu⟩ := hs24
              refine cv_X0_36 X eX0_fillTo_75 (p_findLeast _ G b N w5 (kt + 24) (by omega) _ _ _ _ _ hsu (kt + 3 * 0 + 2) (by omega) (by omega) lw (tb lw P v 0).2 (hrow 0 (by omega)).1 0 (by omega)) (by decide) (by omega) hsu.1 rfl (Nat.le_of_ble_eq_true rfl) (fun w7 hp7 => ?_)
              obtain ⟨plA, ceA, goA, hsA, hokA, gA⟩ := hp7
              have ht_w7 := (gA kt (by omega)).trans ht_w5
              have hr_w7 := (gA (kt + 1) (by omega)).trans hr_w5
              have n2_w7 := (gA (kt + 23) (by omega)).trans n2_w5
              have fr_w7 : ∀ j, (j < kt ∨ kt + 32 ≤ j) → w7 j = w j := fun j hj => (gA j (by omega)).trans (fr_w5 j hj)
              have hrow1 := hrow.fr (w2 := w7) (fun x hx => by omega) (fun j h1 h2 => gA j (by omega))
              have hall1 := all_fr (w2 := w7) hall (fun j h1 h2 => gA j (by omega))
              have h28a := hs28.fr (w2 := w7) (fun j h1 h2 => gA j (by omega))
              refine r_aload_n X eX0_fillTo_78 rfl ?_
              refine r_iconst X eX0_fillTo_79 (nI 0) (by decide) ?_
              have hdm := tb_dim lw P v 0
              refine cv_X0_44 X eX0_fillTo_80 (c_X0_takeUpright _ G b N w7 kt hkt ht_w7 hr_w7 cs n2_w7 0 (by omega) lw (tb lw P v 0).2 (hrow1 0 (by omega)).1 _ _ _ _ hsA hokA (show 2 < (tb lw P v 0).2.1 by omega)) (by decide) (by omega) ht_w7 rfl (Nat.le_of_ble_eq_true rfl) (fun w8 hp8 => ?_)
              obtain ⟨hq, hcq, g8⟩ := hp8
              have ht_w8 := (g8 kt (by omega)).trans ht_w7
              have hr_w8 := (g8 (kt + 1) (by omega)).trans hr_w7
              have m9_w8 : w8 (kt + 23) = aI G 7 (upd cs 0 (cs 0 + tA lw (tb lw P v 0).2 0)) := hcq
              have fr_w8 : ∀ j, (j < kt ∨ kt + 32 ≤ j) → w8 j = w j := fun j hj => (g8 j (by omega)).trans (fr_w7 j hj)
              have hall2 := all_st (w2 := w8) (jj := 0) hall1 hq (fun j h1 h2 h3 => g8 j (by omega))
              have h28b := h28a.fr (w2 := w8) (fun j h1 h2 => g8 j (by omega))
              have h24b : anySm G b w8 (kt + 24) := ⟨_, _, _, _, _, hsA.fr (fun j h1 h2 => g8 j (by omega))⟩
              have hrow2 : RowI G b w8 kt lw (upd cs 0 (cs 0 + tA lw (tb lw P v 0).2 0)) (fun x => x ≤ e) (fun x => tb lw P (if x ≤ 0 then v + 1 else v) x) := hrow1.st (fun x hx => by (try dsimp only at hx ⊢); by_cases hx0 : x = 0; exact Or.inl hx0; exact Or.inr ⟨hx0, by omega, hx, by rw [if_neg (by omega)]⟩) (by (try dsimp only); rw [if_pos (Nat.le_refl 0), show tb lw P (v + 1) 0 = ((tb lw P v 0).1 + tA lw (tb lw P v 0).2 0, cutP lw (tb lw P v 0).2 0) by rw [tb]]; exact hq) (by (try dsimp only); rw [if_pos (Nat.le_refl 0), show tb lw P (v + 1) 0 = ((tb lw P v 0).1 + tA lw (tb lw P v 0).2 0, cutP lw (tb lw P v 0).2 0) by rw [tb], (hrow1 0 (by omega)).2]) (fun j h1 h2 h3 => g8 j (by omega))
              refine r_iconst X eX0_fillTo_83 (nI 1) (by decide) ?_
              refine r_istore X eX0_fillTo_84 (Nat.le_of_ble_eq_true rfl) (L2 := [some (.ref (b + kt)), some (.ref (b + k)), some (.int (nI a)), some (.int (nI e)), some (.int (nI (v + 1))), some (.int (nI 1))]) rfl ?_
              have lp10 : ∀ (fu : Nat) (y : Nat) (cs3 : Nat → Int32) (w10 : Wd), (y ≤ e) → (RowI G b w10 kt lw cs3 (fun x => x ≤ e) (fun x => tb lw P (if x ≤ y then v + 1 else v) x)) → (∀ i, i < 7 → ∃ lw P, isP G b w10 (kt + 3 * i + 2) lw P) → (anySm G b w10 (kt + 24)) → (anySm G b w10 (kt + 28)) → (w10 kt = .inr (0, [.ref (b + (kt + 1)), .ref (b + (kt + 23)), .ref (b + (kt + 24)), .ref (b + (kt + 28))])) → (w10 (kt + 1) = aP G 7 (fun i => some (b + (kt + 3 * i + 2)))) → (w10 (kt + 23) = aI G 7 cs3) → (∀ j, (j < kt ∨ kt + 32 ≤ j) → w10 j = w j) → e - y < fu → V κ G b (N, 0, 0) w10 86 [some (.ref (b + kt)), some (.ref (b + k)), some (.int (nI a)), some (.int (nI e)), some (.int (nI (v + 1))), some (.int (nI (y + 1)))] [] := by
                intro fu
                induction fu with
                | zero => intro y cs3 w10 hy hrow3 hall3 hs243 hs283 ht_w10 hr_w10 m9_w10 fr_w10 hm; exact absurd hm (Nat.not_lt_zero _)
                | succ fu ih10 =>
                  intro y cs3 w10 hy hrow3 hall3 hs243 hs283 ht_w10 hr_w10 m9_w10 fr_w10 hm
                  refine r_iload X eX0_fillTo_86 rfl ?_
                  refine r_iload_n X eX0_fillTo_88 rfl ?_
                  refine r_icmp_gt (tgt := 104) X eX0_fillTo_89 (by decide) (nI_toInt (by omega)) (nI_toInt (by omega)) (fun c_11 => ?_) (fun c_11 => ?_)
                  ·
                    refine r_iinc X eX0_fillTo_104 rfl (nI (v + 2)) (inc_nI _) (L2 := [some (.ref (b + kt)), some (.ref (b + k)), some (.int (nI a)), some (.int (nI e)), some (.int (nI (v + 2))), some (.int (nI (y + 1)))]) rfl ?_
                    refine r_goto (tgt := 58) X eX0_fillTo_107 (by decide) ?_
                    refine r_fg 5 (L2 := [some (.ref (b + kt)), some (.ref (b + k)), some (.int (nI a)), some (.int (nI e)), some (.int (nI (v + 2))), none]) rfl ?_
                    exact ih5 (v + 1) cs3 w10 (by omega) (fun x hx => by have hh := hrow3 x hx; dsimp only at hx hh ⊢; rw [if_pos (by omega)] at hh; exact hh) hall3 hs243 hs283 ht_w10 hr_w10 m9_w10 fr_w10 (by omega)
                  ·
                    refine r_aload_n X eX0_fillTo_92 rfl ?_
                    refine r_iload X eX0_fillTo_93 rfl ?_
                    have hd1 := tb_dim lw P (v + 1) y
                    have hd2 := tb_dim lw P v (y + 1)
                    have hV := hrow3 y (by omega)
                    dsimp only at hV
                    rw [if_pos (Nat.le_refl y)] at hV
                    have hU := hrow3 (y + 1) (by omega)
                    dsimp only at hU
                    rw [if_neg (by omega)] at hU
                    refine cv_X0_47 X eX0_fillTo_95 (c_X0_takeCheaper _ G b N w10 kt hkt ht_w10 hr_w10 cs3 m9_w10 (y + 1) (by omega) (by omega) lw (tb lw P (v + 1) y).2 (tb lw P v (y + 1)).2 hV.1 hU.1 hs243 hs283 (by omega) (by omega)) (by decide) (by omega) ht_w10 rfl (Nat.le_of_ble_eq_true rfl) (fun w12 hp12 => ?_)
                    obtain ⟨hq, hcq, h24c, h28c, g12⟩ := hp12
                    have ht_w12 := (g12 kt (by omega)).trans ht_w10
                    have hr_w12 := (g12 (kt + 1) (by omega)).trans hr_w10
                    have m13_w12 : w12 (kt + 23) = aI G 7 (upd cs3 (y + 1) (chS lw (cs3 y) (tb lw P (v + 1) y).2 (cs3 (y + 1)) (tb lw P v (y + 1)).2).1) := hcq
                    have fr_w12 : ∀ j, (j < kt ∨ kt + 32 ≤ j) → w12 j = w j := fun j hj => (g12 j (by omega)).trans (fr_w10 j hj)
                    have hall4 := all_st (w2 := w12) hall3 hq (fun j h1 h2 h3 => g12 j (by omega))
                    have hch : chS lw (cs3 y) (tb lw P (v + 1) y).2 (cs3 (y + 1)) (tb lw P v (y + 1)).2 = tb lw P (v + 1) (y + 1) := by rw [tb_ch, hV.2, hU.2]
                    have hrow4 : RowI G b w12 kt lw (upd cs3 (y + 1) (chS lw (cs3 y) (tb lw P (v + 1) y).2 (cs3 (y + 1)) (tb lw P v (y + 1)).2).1) (fun x => x ≤ e) (fun x => tb lw P (if x ≤ y + 1 then v + 1 else v) x) := hrow3.st (jj := y + 1) (fun x hx => by (try dsimp only at hx ⊢); by_cases hx0 : x = y + 1; exact Or.inl hx0; exact Or.inr ⟨hx0, by omega, hx, by by_cases c : x ≤ y; rw [if_pos c, if_pos (by omega)]; rw [if_neg c, if_neg (by omega)]⟩) (by (try dsimp only); rw [if_pos (Nat.le_refl (y + 1)), ← hch]; exact hq) (by (try dsimp only); rw [if_pos (Nat.le_refl (y + 1)), ← hch]) (fun j h1 h2 h3 => g12 j (by omega))
                    refine r_iinc X eX0_fillTo_98 rfl (nI (y + 2)) (inc_nI _) (L2 := [some (.ref (b + kt)), some (.ref (b + k)), some (.int (nI a)), some (.int (nI e)), some (.int (nI (v + 1))), some (.int (nI (y + 2)))]) rfl ?_
                    refine r_goto (tgt := 86) X eX0_fillTo_101 (by decide) ?_
                    exact ih10 (y + 1) (upd cs3 (y + 1) (chS lw (cs3 y) (tb lw P (v + 1) y).2 (cs3 (y + 1)) (tb lw P v (y + 1)).2).1) w12 (by omega) hrow4 hall4 h24c h28c ht_w12 hr_w12 m13_w12 fr_w12 (by omega)
              exact lp10 _ 0 (upd cs 0 (cs 0 + tA lw (tb lw P v 0).2 0)) w8 (by omega) hrow2 hall2 h24b h28b ht_w8 hr_w8 m9_w8 fr_w8 (Nat.lt_succ_self _)
        exact lp5 _ 0 cs w3 (by omega) (by rw [show e = u by omega]; exact hrow) hall hs24 hs28 ht_w3 hr_w3 n2_w3 fr_w3 (Nat.lt_succ_self _)
      ·
        refine r_aload_n X eX0_fillTo_26 rfl ?_
        refine gf_X0_29 X eX0_fillTo_27 (by omega) ht_w3 ?_
        refine r_aload_n X eX0_fillTo_30 rfl ?_
        refine gf_X0_11 X eX0_fillTo_31 (by omega) ht_w3 ?_
        refine r_iload X eX0_fillTo_34 rfl ?_
        refine r_iconst X eX0_fillTo_36 (nI 1) (by decide) ?_
        refine r_isub X eX0_fillTo_37 (nI u) (nI_pred _) ?_
        refine r_aald (a := b + (kt + 3 * u + 2)) X eX0_fillTo_38 (by omega) hr_w3 (by omega) (by decide) rfl ?_
        refine r_iconst X eX0_fillTo_39 (nI 1) (by decide) ?_
        obtain ⟨wl, tl, pll, cel, gol, hsl⟩ := hs28
        refine cv_X0_36 X eX0_fillTo_40 (p_findLeast _ G b N w3 (kt + 28) (by omega) _ _ _ _ _ hsl (kt + 3 * u + 2) (by omega) (by omega) lw (tb lw P 0 u).2 (hrow u (by omega)).1 1 (by omega)) (by decide) (by omega) hsl.1 rfl (Nat.le_of_ble_eq_true rfl) (fun w14 hp14 => ?_)
        obtain ⟨plB, ceB, goB, hsB, hokB, gB⟩ := hp14
        have ht_w14 := (gB kt (by omega)).trans ht_w3
        have hr_w14 := (gB (kt + 1) (by omega)).trans hr_w3
        have n2_w14 := (gB (kt + 23) (by omega)).trans n2_w3
        have fr_w14 : ∀ j, (j < kt ∨ kt + 32 ≤ j) → w14 j = w j := fun j hj => (gB j (by omega)).trans (fr_w3 j hj)
        have hrow1 := hrow.fr (w2 := w14) (fun x hx => by omega) (fun j h1 h2 => gB j (by omega))
        have hall1 := all_fr (w2 := w14) hall (fun j h1 h2 => gB j (by omega))
        have h24a := hs24.fr (w2 := w14) (fun j h1 h2 => gB j (by omega))
        refine r_aload_n X eX0_fillTo_43 rfl ?_
        refine r_iload X eX0_fillTo_44 rfl ?_
        obtain ⟨lwx, Px, hx2⟩ := hall1 (u + 1) (by omega)
        have hdm := tb_dim lw P 0 u
        refine cv_X0_40 X eX0_fillTo_46 (c_X0_takeLying _ G b N w14 kt hkt ht_w14 hr_w14 cs n2_w14 (u + 1) (by omega) (by omega) lw (tb lw P 0 u).2 (hrow1 u (by omega)).1 lwx Px hx2 _ _ _ _ hsB hokB (show 2 < (tb lw P 0 u).2.2.1 by omega)) (by decide) (by omega) ht_w14 rfl (Nat.le_of_ble_eq_true rfl) (fun w15 hp15 => ?_)
        obtain ⟨hq, hcq, g15⟩ := hp15
        have ht_w15 := (g15 kt (by omega)).trans ht_w14
        have hr_w15 := (g15 (kt + 1) (by omega)).trans hr_w14
        have m16_w15 : w15 (kt + 23) = aI G 7 (upd cs (u + 1) (cs u + tA lw (tb lw P 0 u).2 1)) := hcq
        have fr_w15 : ∀ j, (j < kt ∨ kt + 32 ≤ j) → w15 j = w j := fun j hj => (g15 j (by omega)).trans (fr_w14 j hj)
        have hall2 := all_st (w2 := w15) hall1 hq (fun j h1 h2 h3 => g15 j (by omega))
        have h24b := h24a.fr (w2 := w15) (fun j h1 h2 => g15 j (by omega))
        have h28b : anySm G b w15 (kt + 28) := ⟨_, _, _, _, _, hsB.fr (fun j h1 h2 => g15 j (by omega))⟩
        have hrow2 : RowI G b w15 kt lw (upd cs (u + 1) (cs u + tA lw (tb lw P 0 u).2 1)) (fun x => x ≤ u + 1) (fun x => tb lw P 0 x) := hrow1.st (fun x hx => by (try dsimp only at hx); by_cases hx0 : x = u + 1; exact Or.inl hx0; exact Or.inr ⟨hx0, by omega, (show x ≤ u by omega), rfl⟩) (by (try dsimp only); rw [show tb lw P 0 (u + 1) = ((tb lw P 0 u).1 + tA lw (tb lw P 0 u).2 1, cutP lw (tb lw P 0 u).2 1) by rw [tb]]; exact hq) (by (try dsimp only); rw [show tb lw P 0 (u + 1) = ((tb lw P 0 u).1 + tA lw (tb lw P 0 u).2 1, cutP lw (tb lw P 0 u).2 1) by rw [tb], (hrow1 u (by omega)).2]) (fun j h1 h2 h3 => g15 j (by omega))
        refine r_iinc X eX0_fillTo_49 rfl (nI (u + 2)) (inc_nI _) (L2 := [some (.ref (b + kt)), some (.ref (b + k)), some (.int (nI a)), some (.int (nI e)), some (.int (nI (u + 2))), none]) rfl ?_
        refine r_goto (tgt := 20) X eX0_fillTo_52 (by decide) ?_
        exact ih3 (u + 1) (upd cs (u + 1) (cs u + tA lw (tb lw P 0 u).2 1)) w15 (by omega) hrow2 hall2 h24b h28b ht_w15 hr_w15 m16_w15 fr_w15 (by omega)
  exact lp3 _ 0 (upd cs0 0 0) w2 (by omega) (row_0 (hq0.fr (fun j h1 h2 => uu2 j (by omega)))) (all_fr hall1 (fun j h1 h2 => uu2 j (by omega))) (h24a.fr (fun j h1 h2 => uu2 j (by omega))) (h28a.fr (fun j h1 h2 => uu2 j (by omega))) ht_w2 hr_w2 n2_w2 fr_w2 (Nat.lt_succ_self _)
