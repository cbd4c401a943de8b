set_option maxHeartbeats 4000000 in
set_option maxRecDepth 100000 in
theorem c_X0_takeUpright (l : Launch) (G : Gs) (b N : Nat) (w : Wd) (kt : Nat) (hkt : kt + 32 ≤ N) (ht : w kt = ctF b kt) (hr : w (kt + 1) = aP G 7 (fun i => some (b + (kt + 3 * i + 2)))) (cs : Nat → Int32) (hc : w (kt + 23) = aI G 7 cs) (jj : Nat) (hj : jj < 7) (lw : Nat) (P : Pc) (hp : isP G b w (kt + 3 * jj + 2) lw P) (tot : Int32) (pl ce go : Nat → Int32) (hs : isSm G b w (kt + 24) 0 tot pl ce go) (hpl : okP pl (sA lw P 0) (nlP P 0) (nbP P 0)) (hb : 2 < nbP P 0) : CV l yX0_takeUpright cX0_takeUpright 2 3 G b N w [.ref (b + kt), .int (nI jj)] (fun w2 => isP G b w2 (kt + 3 * jj + 2) lw (cutP lw P 0) ∧ w2 (kt + 23) = aI G 7 (upd cs jj (cs jj + tot)) ∧ ∀ j, ((j < kt + 3 * jj + 2 ∨ kt + 3 * jj + 5 ≤ j) ∧ j ≠ kt + 23) → w2 j = w j) := by
  obtain ⟨kj, hkj⟩ : ∃ kj, kj = kt + 3 * jj + 2 := ⟨_, rfl⟩
  rw [← hkj] at hp
  have hso := hs.1
  refine CV_of (L0 := [some (.ref (b + kt)), some (.int (nI jj))]) (by decide) rfl (by simp [Value.category]) rfl (Nat.le_of_ble_eq_true rfl) (fun κ X ret => ?_)
  have fr_w : ∀ j, ((j < kt + 3 * jj + 2 ∨ kt + 3 * jj + 5 ≤ j) ∧ j ≠ kt + 23) → w j = w j := fun _ _ => rfl
  refine r_aload_n X eX0_takeUpright_0 rfl ?_
  refine gf_X0_11 X eX0_takeUpright_1 (by omega) ht ?_
  refine r_iload_n X eX0_takeUpright_4 rfl ?_
  refine r_aald (a := b + kj) X eX0_takeUpright_5 (by omega) hr (by omega) (by decide) (by rw [hkj]) ?_
  refine r_aload_n X eX0_takeUpright_6 rfl ?_
  refine gf_X0_25 X eX0_takeUpright_7 (by omega) ht ?_
  refine cv_X0_54 X eX0_takeUpright_10 (p_takeOut _ G b N w kj (by omega) lw P hp (kt + 24) 0 (by omega) (by omega) (by omega) tot pl ce go hs hpl hb) (by decide) (by omega) hp.obj rfl (Nat.le_of_ble_eq_true rfl) (fun w1 hp1 => ?_)
  obtain ⟨hq, g1⟩ := hp1
  have ht_w1 := (g1 kt (by omega)).trans ht
  have hr_w1 := (g1 (kt + 1) (by omega)).trans hr
  have hc_w1 := (g1 (kt + 23) (by omega)).trans hc
  have hso_w1 := (g1 (kt + 24) (by omega)).trans hso
  have fr_w1 : ∀ j, ((j < kt + 3 * jj + 2 ∨ kt + 3 * jj + 5 ≤ j) ∧ j ≠ kt + 23) → w1 j = w j := fun j hj => (g1 j (by omega)).trans (fr_w j hj)
  refine r_aload_n X eX0_takeUpright_13 rfl ?_
  refine gf_X0_18 X eX0_takeUpright_14 (by omega) ht_w1 ?_
  refine r_iload_n X eX0_takeUpright_17 rfl ?_
  refine r_dup2 X eX0_takeUpright_18 rfl rfl ?_
  refine r_iald X eX0_takeUpright_19 (by omega) hc_w1 (by omega) (by decide) ?_
  refine r_aload_n X eX0_takeUpright_20 rfl ?_
  refine gf_X0_25 X eX0_takeUpright_21 (by omega) ht_w1 ?_
  refine gf_X0_50 X eX0_takeUpright_24 (by omega) hso_w1 ?_
  refine r_iadd X eX0_takeUpright_27 ((cs jj) + tot) rfl ?_
  refine r_iast X eX0_takeUpright_28 (by omega) hc_w1 (by omega) (by decide) (fun w2 n2_w2 uu2 => ?_)
  have ht_w2 := (uu2 kt (by omega)).trans ht_w1
  have hr_w2 := (uu2 (kt + 1) (by omega)).trans hr_w1
  have hso_w2 := (uu2 (kt + 24) (by omega)).trans hso_w1
  have fr_w2 : ∀ j, ((j < kt + 3 * jj + 2 ∨ kt + 3 * jj + 5 ≤ j) ∧ j ≠ kt + 23) → w2 j = w j := fun j hj => (uu2 j (by omega)).trans (fr_w1 j hj)
  exact ret _ _ _ _ eX0_takeUpright_29 (⟨hkj ▸ hq.fr (fun x h1 h2 => uu2 x (by omega)), n2_w2, fr_w2⟩)
set_option maxHeartbeats 4000000 in
set_option maxRecDepth 100000 in
theorem c_X0_takeLying (l : Launch) (G : Gs) (b N : Nat) (w : Wd) (kt : Nat) (hkt : kt + 32 ≤ N) (ht : w kt = ctF b kt) (hr : w (kt + 1) = aP G 7 (fun i => some (b + (kt + 3 * i + 2)))) (cs : Nat → Int32) (hc : w (kt + 23) = aI G 7 cs) (jj : Nat) (hj : jj < 7) (hj0 : 0 < jj) (lw : Nat) (P : Pc) (hp : isP G b w (kt + 3 * (jj - 1) + 2) lw P) (lw2 : Nat) (P2 : Pc) (hp2 : isP G b w (kt + 3 * jj + 2) lw2 P2) (tot : Int32) (pl ce go : Nat → Int32) (hs : isSm G b w (kt + 28) 1 tot pl ce go) (hpl : okP pl (sA lw P 1) (nlP P 1) (nbP P 1)) (hb : 2 < nbP P 1) : CV l yX0_takeLying cX0_takeLying 2 3 G b N w [.ref (b + kt), .int (nI jj)] (fun w2 => isP G b w2 (kt + 3 * jj + 2) lw (cutP lw P 1) ∧ w2 (kt + 23) = aI G 7 (upd cs jj (cs (jj - 1) + tot)) ∧ ∀ j, ((j < kt + 3 * jj + 2 ∨ kt + 3 * jj + 5 ≤ j) ∧ j ≠ kt + 23) → w2 j = w j) := by
  obtain ⟨kj, hkj⟩ : ∃ kj, kj = kt + 3 * jj + 2 := ⟨_, rfl⟩
  obtain ⟨ki, hki⟩ : ∃ ki, ki = kt + 3 * (jj - 1) + 2 := ⟨_, rfl⟩
  rw [← hki] at hp
  rw [← hkj] at hp2
  have hso := hs.1
  refine CV_of (L0 := [some (.ref (b + kt)), some (.int (nI jj))]) (by decide) rfl (by simp [Value.category]) rfl (Nat.le_of_ble_eq_true rfl) (fun κ X ret => ?_)
  have fr_w : ∀ j, ((j < kt + 3 * jj + 2 ∨ kt + 3 * jj + 5 ≤ j) ∧ j ≠ kt + 23) → w j = w j := fun _ _ => rfl
  refine r_aload_n X eX0_takeLying_0 rfl ?_
  refine gf_X0_11 X eX0_takeLying_1 (by omega) ht ?_
  refine r_iload_n X eX0_takeLying_4 rfl ?_
  refine r_aald (a := b + kj) X eX0_takeLying_5 (by omega) hr (by omega) (by decide) (by rw [hkj]) ?_
  refine r_aload_n X eX0_takeLying_6 rfl ?_
  refine gf_X0_11 X eX0_takeLying_7 (by omega) ht ?_
  refine r_iload_n X eX0_takeLying_10 rfl ?_
  refine r_iconst X eX0_takeLying_11 (nI 1) (by decide) ?_
  refine r_isub X eX0_takeLying_12 (nI (jj - 1)) (pk_sub (by omega)) ?_
  refine r_aald (a := b + ki) X eX0_takeLying_13 (by omega) hr (by omega) (by decide) (by rw [hki]) ?_
  refine cv_X0_32 X eX0_takeLying_14 (p_copyFrom _ G b N w kj (by omega) lw2 P2 hp2 ki (by omega) (by omega) lw P hp) (by decide) (by omega) hp2.obj rfl (Nat.le_of_ble_eq_true rfl) (fun w1 hp1 => ?_)
  obtain ⟨hq, g1⟩ := hp1
  have ht_w1 := (g1 kt (by omega)).trans ht
  have hr_w1 := (g1 (kt + 1) (by omega)).trans hr
  have hc_w1 := (g1 (kt + 23) (by omega)).trans hc
  have hso_w1 := (g1 (kt + 28) (by omega)).trans hso
  have fr_w1 : ∀ j, ((j < kt + 3 * jj + 2 ∨ kt + 3 * jj + 5 ≤ j) ∧ j ≠ kt + 23) → w1 j = w j := fun j hj => (g1 j (by omega)).trans (fr_w j hj)
  have hs2 := hs.fr (fun x h1 h2 => g1 x (by omega))
  refine r_aload_n X eX0_takeLying_17 rfl ?_
  refine gf_X0_11 X eX0_takeLying_18 (by omega) ht_w1 ?_
  refine r_iload_n X eX0_takeLying_21 rfl ?_
  refine r_aald (a := b + kj) X eX0_takeLying_22 (by omega) hr_w1 (by omega) (by decide) (by rw [hkj]) ?_
  refine r_aload_n X eX0_takeLying_23 rfl ?_
  refine gf_X0_29 X eX0_takeLying_24 (by omega) ht_w1 ?_
  refine cv_X0_54 X eX0_takeLying_27 (p_takeOut _ G b N w1 kj (by omega) lw P hq (kt + 28) 1 (by omega) (by omega) (by omega) tot pl ce go hs2 hpl hb) (by decide) (by omega) hq.obj rfl (Nat.le_of_ble_eq_true rfl) (fun w2 hp2 => ?_)
  obtain ⟨hq2, g2⟩ := hp2
  have ht_w2 := (g2 kt (by omega)).trans ht_w1
  have hr_w2 := (g2 (kt + 1) (by omega)).trans hr_w1
  have hc_w2 := (g2 (kt + 23) (by omega)).trans hc_w1
  have hso_w2 := (g2 (kt + 28) (by omega)).trans hso_w1
  have fr_w2 : ∀ j, ((j < kt + 3 * jj + 2 ∨ kt + 3 * jj + 5 ≤ j) ∧ j ≠ kt + 23) → w2 j = w j := fun j hj => (g2 j (by omega)).trans (fr_w1 j hj)
  refine r_aload_n X eX0_takeLying_30 rfl ?_
  refine gf_X0_18 X eX0_takeLying_31 (by omega) ht_w2 ?_
  refine r_iload_n X eX0_takeLying_34 rfl ?_
  refine r_aload_n X eX0_takeLying_35 rfl ?_
  refine gf_X0_18 X eX0_takeLying_36 (by omega) ht_w2 ?_
  refine r_iload_n X eX0_takeLying_39 rfl ?_
  refine r_iconst X eX0_takeLying_40 (nI 1) (by decide) ?_
  refine r_isub X eX0_takeLying_41 (nI (jj - 1)) (pk_sub (by omega)) ?_
  refine r_iald X eX0_takeLying_42 (by omega) hc_w2 (by omega) (by decide) ?_
  refine r_aload_n X eX0_takeLying_43 rfl ?_
  refine gf_X0_29 X eX0_takeLying_44 (by omega) ht_w2 ?_
  refine gf_X0_50 X eX0_takeLying_47 (by omega) hso_w2 ?_
  refine r_iadd X eX0_takeLying_50 ((cs (jj - 1)) + tot) rfl ?_
  refine r_iast X eX0_takeLying_51 (by omega) hc_w2 (by omega) (by decide) (fun w3 n3_w3 uu3 => ?_)
  have ht_w3 := (uu3 kt (by omega)).trans ht_w2
  have hr_w3 := (uu3 (kt + 1) (by omega)).trans hr_w2
  have hso_w3 := (uu3 (kt + 28) (by omega)).trans hso_w2
  have fr_w3 : ∀ j, ((j < kt + 3 * jj + 2 ∨ kt + 3 * jj + 5 ≤ j) ∧ j ≠ kt + 23) → w3 j = w j := fun j hj => (uu3 j (by omega)).trans (fr_w2 j hj)
  exact ret _ _ _ _ eX0_takeLying_52 (⟨hkj ▸ hq2.fr (fun x h1 h2 => uu3 x (by omega)), n3_w3, fr_w3⟩)
set_option maxHeartbeats 4000000 in
set_option maxRecDepth 100000 in
theorem c_X0_takeCheaper (l : Launch) (G : Gs) (b N : Nat) (w : Wd) (kt : Nat) (hkt : kt + 32 ≤ N) (ht : w kt = ctF b kt) (hr : w (kt + 1) = aP G 7 (fun i => some (b + (kt + 3 * i + 2)))) (cs : Nat → Int32) (hc : w (kt + 23) = aI G 7 cs) (jj : Nat) (hj : jj < 7) (hj0 : 0 < jj) (lw : Nat) (Vp Up : Pc) (hv : isP G b w (kt + 3 * (jj - 1) + 2) lw Vp) (hu : isP G b w (kt + 3 * jj + 2) lw Up) (hau : anySm G b w (kt + 24)) (hal : anySm G b w (kt + 28)) (hbv : 2 < Vp.2.1) (hbu : 2 < Up.1) : CV l yX0_takeCheaper cX0_takeCheaper 2 5 G b N w [.ref (b + kt), .int (nI jj)] (fun w2 => isP G b w2 (kt + 3 * jj + 2) lw (chS lw (cs (jj - 1)) Vp (cs jj) Up).2 ∧ w2 (kt + 23) = aI G 7 (upd cs jj (chS lw (cs (jj - 1)) Vp (cs jj) Up).1) ∧ anySm G b w2 (kt + 24) ∧ anySm G b w2 (kt + 28) ∧ ∀ j, ((j < kt + 3 * jj + 2 ∨ kt + 3 * jj + 5 ≤ j) ∧ (j < kt + 23 ∨ kt + 32 ≤ j)) → w2 j = w j) := by
  obtain ⟨kj, hkj⟩ : ∃ kj, kj = kt + 3 * jj + 2 := ⟨_, rfl⟩
  obtain ⟨ki, hki⟩ : ∃ ki, ki = kt + 3 * (jj - 1) + 2 := ⟨_, rfl⟩
  rw [← hki] at hv
  rw [← hkj] at hu
  obtain ⟨wu, tu, plu, ceu, gou, hsu⟩ := hau
  obtain ⟨wl, tl, pll, cel, gol, hsl⟩ := hal
  have hsuo := hsu.1
  have hslo := hsl.1
  refine CV_of (L0 := [some (.ref (b + kt)), some (.int (nI jj))]) (by decide) rfl (by simp [Value.category]) rfl (Nat.le_of_ble_eq_true rfl) (fun κ X ret => ?_)
  have fr_w : ∀ j, ((j < kt + 3 * jj + 2 ∨ kt + 3 * jj + 5 ≤ j) ∧ (j < kt + 23 ∨ kt + 32 ≤ j)) → w j = w j := fun _ _ => rfl
  refine r_aload_n X eX0_takeCheaper_0 rfl ?_
  refine gf_X0_25 X eX0_takeCheaper_1 (by omega) ht ?_
  refine r_aload_n X eX0_takeCheaper_4 rfl ?_
  refine gf_X0_11 X eX0_takeCheaper_5 (by omega) ht ?_
  refine r_iload_n X eX0_takeCheaper_8 rfl ?_
  refine r_aald (a := b + kj) X eX0_takeCheaper_9 (by omega) hr (by omega) (by decide) (by rw [hkj]) ?_
  refine r_iconst X eX0_takeCheaper_10 (nI 0) (by decide) ?_
  refine cv_X0_36 X eX0_takeCheaper_11 (p_findLeast _ G b N w (kt + 24) (by omega) _ _ _ _ _ hsu kj (by omega) (by omega) lw Up hu 0 (by omega)) (by decide) (by omega) hsuo rfl (Nat.le_of_ble_eq_true rfl) (fun w1 hp1 => ?_)
  obtain ⟨plA, ceA, goA, hsA, hokA, gA⟩ := hp1
  have ht_w1 := (gA kt (by omega)).trans ht
  have hr_w1 := (gA (kt + 1) (by omega)).trans hr
  have hc_w1 := (gA (kt + 23) (by omega)).trans hc
  have hslo_w1 := (gA (kt + 28) (by omega)).trans hslo
  have m2_w1 : w1 (kt + 24) = .inr (4, [.int (nI 0), .int (tA lw Up 0), .ref (b + (kt + 25)), .ref (b + (kt + 26)), .ref (b + (kt + 27))]) := hsA.1
  have fr_w1 : ∀ j, ((j < kt + 3 * jj + 2 ∨ kt + 3 * jj + 5 ≤ j) ∧ (j < kt + 23 ∨ kt + 32 ≤ j)) → w1 j = w j := fun j hj => (gA j (by omega)).trans (fr_w j hj)
  have hv1 := hv.fr (fun x h1 h2 => gA x (by omega))
  have hu1 := hu.fr (fun x h1 h2 => gA x (by omega))
  have hsl1 := hsl.fr (fun x h1 h2 => gA x (by omega))
  refine r_aload_n X eX0_takeCheaper_14 rfl ?_
  refine gf_X0_29 X eX0_takeCheaper_15 (by omega) ht_w1 ?_
  refine r_aload_n X eX0_takeCheaper_18 rfl ?_
  refine gf_X0_11 X eX0_takeCheaper_19 (by omega) ht_w1 ?_
  refine r_iload_n X eX0_takeCheaper_22 rfl ?_
  refine r_iconst X eX0_takeCheaper_23 (nI 1) (by decide) ?_
  refine r_isub X eX0_takeCheaper_24 (nI (jj - 1)) (pk_sub (by omega)) ?_
  refine r_aald (a := b + ki) X eX0_takeCheaper_25 (by omega) hr_w1 (by omega) (by decide) (by rw [hki]) ?_
  refine r_iconst X eX0_takeCheaper_26 (nI 1) (by decide) ?_
  refine cv_X0_36 X eX0_takeCheaper_27 (p_findLeast _ G b N w1 (kt + 28) (by omega) _ _ _ _ _ hsl1 ki (by omega) (by omega) lw Vp hv1 1 (by omega)) (by decide) (by omega) hslo_w1 rfl (Nat.le_of_ble_eq_true rfl) (fun w3 hp3 => ?_)
  obtain ⟨plB, ceB, goB, hsB, hokB, gB⟩ := hp3
  have ht_w3 := (gB kt (by omega)).trans ht_w1
  have hr_w3 := (gB (kt + 1) (by omega)).trans hr_w1
  have hc_w3 := (gB (kt + 23) (by omega)).trans hc_w1
  have m2_w3 := (gB (kt + 24) (by omega)).trans m2_w1
  have m4_w3 : w3 (kt + 28) = .inr (4, [.int (nI 1), .int (tA lw Vp 1), .ref (b + (kt + 29)), .ref (b + (kt + 30)), .ref (b + (kt + 31))]) := hsB.1
  have fr_w3 : ∀ j, ((j < kt + 3 * jj + 2 ∨ kt + 3 * jj + 5 ≤ j) ∧ (j < kt + 23 ∨ kt + 32 ≤ j)) → w3 j = w j := fun j hj => (gB j (by omega)).trans (fr_w1 j hj)
  have hv2 := hv1.fr (fun x h1 h2 => gB x (by omega))
  have hu2 := hu1.fr (fun x h1 h2 => gB x (by omega))
  have hsA2 := hsA.fr (fun x h1 h2 => gB x (by omega))
  refine r_aload_n X eX0_takeCheaper_30 rfl ?_
  refine gf_X0_18 X eX0_takeCheaper_31 (by omega) ht_w3 ?_
  refine r_iload_n X eX0_takeCheaper_34 rfl ?_
  refine r_iconst X eX0_takeCheaper_35 (nI 1) (by decide) ?_
  refine r_isub X eX0_takeCheaper_36 (nI (jj - 1)) (pk_sub (by omega)) ?_
  refine r_iald X eX0_takeCheaper_37 (by omega) hc_w3 (by omega) (by decide) ?_
  refine r_aload_n X eX0_takeCheaper_38 rfl ?_
  refine gf_X0_29 X eX0_takeCheaper_39 (by omega) ht_w3 ?_
  refine gf_X0_50 X eX0_takeCheaper_42 (by omega) m4_w3 ?_
  refine r_iadd X eX0_takeCheaper_45 ((cs (jj - 1)) + (tA lw Vp 1)) rfl ?_
  refine r_aload_n X eX0_takeCheaper_46 rfl ?_
  refine gf_X0_18 X eX0_takeCheaper_47 (by omega) ht_w3 ?_
  refine r_iload_n X eX0_takeCheaper_50 rfl ?_
  refine r_iald X eX0_takeCheaper_51 (by omega) hc_w3 (by omega) (by decide) ?_
  refine r_aload_n X eX0_takeCheaper_52 rfl ?_
  refine gf_X0_25 X eX0_takeCheaper_53 (by omega) ht_w3 ?_
  refine gf_X0_50 X eX0_takeCheaper_56 (by omega) m2_w3 ?_
  refine r_iadd X eX0_takeCheaper_59 ((cs jj) + (tA lw Up 0)) rfl ?_
  refine r_icmp_ge (tgt := 71) X eX0_takeCheaper_60 (by decide) rfl rfl (fun c_5 => ?_) (fun c_5 => ?_)
  ·
    refine r_aload_n X eX0_takeCheaper_71 rfl ?_
    refine r_iload_n X eX0_takeCheaper_72 rfl ?_
    refine cv_X0_44 X eX0_takeCheaper_73 (c_X0_takeUpright _ G b N w3 kt hkt ht_w3 hr_w3 cs hc_w3 jj hj lw Up (hkj ▸ hu2) _ _ _ _ hsA2 hokA hbu) (by decide) (by omega) ht_w3 rfl (Nat.le_of_ble_eq_true rfl) (fun w6 hp6 => ?_)
    obtain ⟨hq, hcq, g6⟩ := hp6
    have ht_w6 := (g6 kt (by omega)).trans ht_w3
    have hr_w6 := (g6 (kt + 1) (by omega)).trans hr_w3
    have m2_w6 := (g6 (kt + 24) (by omega)).trans m2_w3
    have m4_w6 := (g6 (kt + 28) (by omega)).trans m4_w3
    have m7_w6 : w6 (kt + 23) = aI G 7 (upd cs jj (cs jj + tA lw Up 0)) := hcq
    have fr_w6 : ∀ j, ((j < kt + 3 * jj + 2 ∨ kt + 3 * jj + 5 ≤ j) ∧ (j < kt + 23 ∨ kt + 32 ≤ j)) → w6 j = w j := fun j hj => (g6 j (by omega)).trans (fr_w3 j hj)
    have hs24 : anySm G b w6 (kt + 24) := ⟨_, _, _, _, _, hsA2.fr (fun x h1 h2 => g6 x (by omega))⟩
    have hs28 : anySm G b w6 (kt + 28) := ⟨_, _, _, _, _, hsB.fr (fun x h1 h2 => g6 x (by omega))⟩
    exact ret _ _ _ _ eX0_takeCheaper_76 (by have hch : chS lw (cs (jj - 1)) Vp (cs jj) Up = (cs jj + tA lw Up 0, cutP lw Up 0) := if_neg (fun z => by have := Int32.lt_iff_toInt_lt.mp z; omega); rw [hch]; exact ⟨hq, m7_w6, hs24, hs28, fr_w6⟩)
  ·
    refine r_aload_n X eX0_takeCheaper_63 rfl ?_
    refine r_iload_n X eX0_takeCheaper_64 rfl ?_
    refine cv_X0_40 X eX0_takeCheaper_65 (c_X0_takeLying _ G b N w3 kt hkt ht_w3 hr_w3 cs hc_w3 jj hj hj0 lw Vp (hki ▸ hv2) lw Up (hkj ▸ hu2) _ _ _ _ hsB hokB hbv) (by decide) (by omega) ht_w3 rfl (Nat.le_of_ble_eq_true rfl) (fun w8 hp8 => ?_)
    obtain ⟨hq, hcq, g8⟩ := hp8
    have ht_w8 := (g8 kt (by omega)).trans ht_w3
    have hr_w8 := (g8 (kt + 1) (by omega)).trans hr_w3
    have m2_w8 := (g8 (kt + 24) (by omega)).trans m2_w3
    have m4_w8 := (g8 (kt + 28) (by omega)).trans m4_w3
    have m9_w8 : w8 (kt + 23) = aI G 7 (upd cs jj (cs (jj - 1) + tA lw Vp 1)) := hcq
    have fr_w8 : ∀ j, ((j < kt + 3 * jj + 2 ∨ kt + 3 * jj + 5 ≤ j) ∧ (j < kt + 23 ∨ kt + 32 ≤ j)) → w8 j = w j := fun j hj => (g8 j (by omega)).trans (fr_w3 j hj)
    have hs24 : anySm G b w8 (kt + 24) := ⟨_, _, _, _, _, hsA2.fr (fun x h1 h2 => g8 x (by omega))⟩
    have hs28 : anySm G b w8 (kt + 28) := ⟨_, _, _, _, _, hsB.fr (fun x h1 h2 => g8 x (by omega))⟩
    refine r_goto (tgt := 76) X eX0_takeCheaper_68 (by decide) ?_
    exact ret _ _ _ _ eX0_takeCheaper_76 (by have hch : chS lw (cs (jj - 1)) Vp (cs jj) Up = (cs (jj - 1) + tA lw Vp 1, cutP lw Vp 1) := if_pos (Int32.lt_iff_toInt_lt.mpr c_5); rw [hch]; exact ⟨hq, m9_w8, hs24, hs28, fr_w8⟩)
