set_option maxHeartbeats 4000000 in
set_option maxRecDepth 100000 in
theorem c_X5_canReach (l : Launch) (G : Gs) (b N : Nat) (w : Wd) (hN : 77 ≤ N) (lw : Nat) (P : Pc) (n : Nat) (sg : Nat → Int32) (im : Nat → Nat × Pc) (kf : Nat → Int32) (hs : sysC G b w (lw, P, n, sg, im, kf)) (x y : Int32) : CI l yX5_canReach cX5_canReach 3 (some .boolean) 0 G b N w [.ref (b + 0), .int x, .int y] (fun r w2 => r = bI (reC P x y) ∧ w2 = w) := by
  obtain ⟨z0, hp, ⟨wy0, tt0, pl0, ce0, go0, hsm⟩, hpd, ⟨ac, hac⟩, hos, hct, him, hpi, hkf, hkb⟩ := id hs
  have hpo := hp.obj
  have hP := hp.ok
  obtain ⟨o1, o2, o3, o4⟩ := id hP
  have hlw := hp.lw
  have hso := hsm.1
  have hpdo := hpd.1
  have hn8 := hpd.2.2
  dsimp only at hp hpd hpi hkf hkb hpo hP o1 o2 o3 o4 hlw hpdo hn8
  refine CZ_of (L0 := [some (.ref (b + 0)), some (.int x), some (.int y)]) (by decide) rfl (by simp [Value.category]) rfl (Nat.le_of_ble_eq_true rfl) rfl (fun κ X ret => ?_)
  refine r_iload_n X eX5_canReach_0 rfl ?_
  refine r_if_lt (tgt := 46) X eX5_canReach_1 (by decide) rfl (fun c_1 => ?_) (fun c_1 => ?_)
  ·
    refine r_iconst X eX5_canReach_46 (nI 0) (by decide) ?_
    exact ret _ _ _ _ _ eX5_canReach_47 (Or.inl rfl) (⟨bI_f (by omega), rfl⟩)
  ·
    refine r_iload_n X eX5_canReach_4 rfl ?_
    refine r_aload_n X eX5_canReach_5 rfl ?_
    refine gf_X5_10 X eX5_canReach_6 (by omega) z0 ?_
    refine gf_X5_56 X eX5_canReach_9 (by omega) hpo ?_
    refine r_iconst X eX5_canReach_12 (nI 2) (by decide) ?_
    refine r_isub X eX5_canReach_13 (nI (P.1 - 2)) (pk_sub (by omega)) ?_
    refine r_icmp_gt (tgt := 46) X eX5_canReach_14 (by decide) rfl (nI_toInt (by omega)) (fun c_2 => ?_) (fun c_2 => ?_)
    ·
      refine r_iconst X eX5_canReach_46 (nI 0) (by decide) ?_
      exact ret _ _ _ _ _ eX5_canReach_47 (Or.inl rfl) (⟨bI_f (by omega), rfl⟩)
    ·
      refine r_iload_n X eX5_canReach_17 rfl ?_
      refine r_if_lt (tgt := 46) X eX5_canReach_18 (by decide) rfl (fun c_3 => ?_) (fun c_3 => ?_)
      ·
        refine r_iconst X eX5_canReach_46 (nI 0) (by decide) ?_
        exact ret _ _ _ _ _ eX5_canReach_47 (Or.inl rfl) (⟨bI_f (by omega), rfl⟩)
      ·
        refine r_iload_n X eX5_canReach_21 rfl ?_
        refine r_aload_n X eX5_canReach_22 rfl ?_
        refine gf_X5_10 X eX5_canReach_23 (by omega) z0 ?_
        refine gf_X5_60 X eX5_canReach_26 (by omega) hpo ?_
        refine r_iconst X eX5_canReach_29 (nI 2) (by decide) ?_
        refine r_isub X eX5_canReach_30 (nI (P.2.1 - 2)) (pk_sub (by omega)) ?_
        refine r_icmp_gt (tgt := 46) X eX5_canReach_31 (by decide) rfl (nI_toInt (by omega)) (fun c_4 => ?_) (fun c_4 => ?_)
        ·
          refine r_iconst X eX5_canReach_46 (nI 0) (by decide) ?_
          exact ret _ _ _ _ _ eX5_canReach_47 (Or.inl rfl) (⟨bI_f (by omega), rfl⟩)
        ·
          refine r_iload_n X eX5_canReach_34 rfl ?_
          refine r_iload_n X eX5_canReach_35 rfl ?_
          refine r_iadd X eX5_canReach_36 (x + y) rfl ?_
          refine r_bipush X eX5_canReach_37 (nI 6) (by decide) ?_
          refine r_icmp_gt (tgt := 46) X eX5_canReach_39 (by decide) (i_add (by omega) (by omega) (by omega) (by omega)) (nI_toInt (by omega)) (fun c_5 => ?_) (fun c_5 => ?_)
          ·
            refine r_iconst X eX5_canReach_46 (nI 0) (by decide) ?_
            exact ret _ _ _ _ _ eX5_canReach_47 (Or.inl rfl) (⟨bI_f (by omega), rfl⟩)
          ·
            refine r_iconst X eX5_canReach_42 (nI 1) (by decide) ?_
            refine r_goto (tgt := 47) X eX5_canReach_43 (by decide) ?_
            exact ret _ _ _ _ _ eX5_canReach_47 (Or.inr rfl) (⟨bI_t (by omega), rfl⟩)
set_option maxHeartbeats 4000000 in
set_option maxRecDepth 100000 in
theorem c_X5_seam (l : Launch) (G : Gs) (b N : Nat) (w : Wd) (hN : 77 ≤ N) (lw : Nat) (P : Pc) (n : Nat) (sg : Nat → Int32) (im : Nat → Nat × Pc) (kf : Nat → Int32) (hs : sysC G b w (lw, P, n, sg, im, kf)) (way i : Int32) : CI l yX5_seam cX5_seam 3 (some .int) 5 G b N w [.ref (b + 0), .int way, .int i] (fun r w2 => r = aSeam lw P way i ∧ sysC G b w2 (lw, P, n, sg, im, kf) ∧ ∀ j, (77 ≤ j) → w2 j = w j) := by
  obtain ⟨z0, hp, ⟨wy0, tt0, pl0, ce0, go0, hsm⟩, hpd, ⟨ac, hac⟩, hos, hct, him, hpi, hkf, hkb⟩ := id hs
  have hpo := hp.obj
  have hP := hp.ok
  obtain ⟨o1, o2, o3, o4⟩ := id hP
  have hlw := hp.lw
  have hso := hsm.1
  have hpdo := hpd.1
  have hn8 := hpd.2.2
  dsimp only at hp hpd hpi hkf hkb hpo hP o1 o2 o3 o4 hlw hpdo hn8
  refine CI_of (L0 := [some (.ref (b + 0)), some (.int way), some (.int i)]) (by decide) rfl (by simp [Value.category]) rfl (Nat.le_of_ble_eq_true rfl) rfl (fun κ X ret => ?_)
  have fr_w : ∀ j, (77 ≤ j) → w j = w j := fun _ _ => rfl
  refine r_iload_n X eX5_seam_0 rfl ?_
  refine cp_X5_78 X eX5_seam_1 (c_X5_isBit _ G b N w way) (by decide) rfl (Nat.le_of_ble_eq_true rfl) ?_
  refine r_ifeq_b (tgt := 12) X eX5_seam_4 (by decide) (fun c_1 => ?_) (fun c_1 => ?_)
  ·
    refine r_bipush X eX5_seam_12 ((-2 : Int32)) (by decide) ?_
    exact ret _ _ _ _ _ eX5_seam_14 (⟨(if_neg (fun q => c_1 q.1)).symm, hs, fr_w⟩)
  ·
    refine r_iload_n X eX5_seam_7 rfl ?_
    refine r_iconst X eX5_seam_8 ((-1 : Int32)) (by decide) ?_
    refine r_icmp_ge (tgt := 15) X eX5_seam_9 (by decide) rfl (show (-1 : Int32).toInt = -1 by decide) (fun c_2 => ?_) (fun c_2 => ?_)
    ·
      obtain ⟨nw, hnw, rfl, hi_nw⟩ := i2n (x := way) (by omega)
      have hpos := hP.pos nw
      refine r_iload_n X eX5_seam_15 rfl ?_
      refine r_aload_n X eX5_seam_16 rfl ?_
      refine gf_X5_10 X eX5_seam_17 (by omega) z0 ?_
      refine r_iload_n X eX5_seam_20 rfl ?_
      refine cp_X5_116 X eX5_seam_21 (p_lines _ G b N w 1 (by omega) lw P hp nw (by omega)) (by decide) (by omega) hpo rfl (Nat.le_of_ble_eq_true rfl) ?_
      refine r_icmp_lt (tgt := 30) X eX5_seam_24 (by decide) rfl (nI_toInt (by omega)) (fun c_3 => ?_) (fun c_3 => ?_)
      ·
        refine r_aload_n X eX5_seam_30 rfl ?_
        refine gf_X5_19 X eX5_seam_31 (by omega) z0 ?_
        refine r_aload_n X eX5_seam_34 rfl ?_
        refine gf_X5_10 X eX5_seam_35 (by omega) z0 ?_
        refine r_iload_n X eX5_seam_38 rfl ?_
        refine cv_X5_119 X eX5_seam_39 (p_findLeast _ G b N w 4 (by omega) _ _ _ _ _ hsm 1 (by omega) (by omega) lw P hp nw (by omega)) (by decide) (by omega) hso rfl (Nat.le_of_ble_eq_true rfl) (fun w4 hp4 => ?_)
        obtain ⟨pl1, ce1, go1, hsm1, hok1, g4⟩ := hp4
        have z0_w4 := (g4 0 (by omega)).trans z0
        have hpo_w4 := (g4 1 (by omega)).trans hpo
        have hpdo_w4 := (g4 8 (by omega)).trans hpdo
        have hac_w4 := (g4 10 (by omega)).trans hac
        have him_w4 := (g4 69 (by omega)).trans him
        have hkf_w4 := (g4 76 (by omega)).trans hkf
        have m5_w4 : w4 4 = .inr (4, [.int (nI nw), .int (tA lw P nw), .ref (b + 5), .ref (b + 6), .ref (b + 7)]) := hsm1.1
        have m6_w4 : w4 5 = aI G 8 pl1 := hsm1.2.1
        have fr_w4 : ∀ j, (77 ≤ j) → w4 j = w j := fun j hj => (g4 j (by omega)).trans (fr_w j hj)
        have hs1 := sysC_S hs ⟨_, _, _, _, _, hsm1⟩ (fun j hj => g4 j (by omega))
        have hp1 := hp.fr (w2 := w4) (fun j h1 h2 => g4 j (by omega))
        refine r_iload_n X eX5_seam_42 rfl ?_
        refine r_if_ge (tgt := 60) X eX5_seam_43 (by decide) rfl (fun c_7 => ?_) (fun c_7 => ?_)
        ·
          obtain ⟨ni, hni, rfl, hi_ni⟩ := i2n (x := i) (by omega)
          refine r_aload_n X eX5_seam_60 rfl ?_
          refine gf_X5_19 X eX5_seam_61 (by omega) z0_w4 ?_
          refine gf_X5_126 X eX5_seam_64 (by omega) m5_w4 ?_
          refine r_iload_n X eX5_seam_67 rfl ?_
          refine r_iald X eX5_seam_68 (by omega) m6_w4 (by omega) (by decide) ?_
          refine r_top (y := nI (sA lw P nw ni)) (hok1 ni (by omega)).1 ?_
          exact ret _ _ _ _ _ eX5_seam_69 (⟨by rw [aSeam, if_pos ⟨c_1, by omega⟩, tn_nI hnw, if_pos (by omega), if_neg (by omega), tn_nI hni], hs1, fr_w4⟩)
        ·
          refine r_aload_n X eX5_seam_46 rfl ?_
          refine gf_X5_19 X eX5_seam_47 (by omega) z0_w4 ?_
          refine gf_X5_123 X eX5_seam_50 (by omega) m5_w4 ?_
          refine r_sipush X eX5_seam_53 ((10000 : Int32)) (by decide) ?_
          refine r_iadd X eX5_seam_56 ((tA lw P nw) + ((10000 : Int32))) rfl ?_
          refine r_goto (tgt := 69) X eX5_seam_57 (by decide) ?_
          exact ret _ _ _ _ _ eX5_seam_69 (⟨by rw [aSeam, if_pos ⟨c_1, by omega⟩, tn_nI hnw, if_pos (by omega), if_pos (by omega)], hs1, fr_w4⟩)
      ·
        refine r_bipush X eX5_seam_27 ((-6 : Int32)) (by decide) ?_
        exact ret _ _ _ _ _ eX5_seam_29 (⟨by rw [aSeam, if_pos ⟨c_1, by omega⟩, tn_nI hnw, if_neg (by omega)], hs, fr_w⟩)
    ·
      refine r_bipush X eX5_seam_12 ((-2 : Int32)) (by decide) ?_
      exact ret _ _ _ _ _ eX5_seam_14 (⟨(if_neg (fun q => absurd q.2 (by omega))).symm, hs, fr_w⟩)
set_option maxHeartbeats 4000000 in
set_option maxRecDepth 100000 in
theorem c_X5_cost (l : Launch) (G : Gs) (b N : Nat) (w : Wd) (hN : 77 ≤ N) (lw : Nat) (P : Pc) (n : Nat) (sg : Nat → Int32) (im : Nat → Nat × Pc) (kf : Nat → Int32) (hs : sysC G b w (lw, P, n, sg, im, kf)) (way m : Int32) : CI l yX5_cost cX5_cost 3 (some .int) 5 G b N w [.ref (b + 0), .int way, .int m] (fun r w2 => r = aCost lw P way m ∧ sysC G b w2 (lw, P, n, sg, im, kf) ∧ ∀ j, (77 ≤ j) → w2 j = w j) := by
  obtain ⟨z0, hp, ⟨wy0, tt0, pl0, ce0, go0, hsm⟩, hpd, ⟨ac, hac⟩, hos, hct, him, hpi, hkf, hkb⟩ := id hs
  have hpo := hp.obj
  have hP := hp.ok
  obtain ⟨o1, o2, o3, o4⟩ := id hP
  have hlw := hp.lw
  have hso := hsm.1
  have hpdo := hpd.1
  have hn8 := hpd.2.2
  dsimp only at hp hpd hpi hkf hkb hpo hP o1 o2 o3 o4 hlw hpdo hn8
  refine CI_of (L0 := [some (.ref (b + 0)), some (.int way), some (.int m)]) (by decide) rfl (by simp [Value.category]) rfl (Nat.le_of_ble_eq_true rfl) rfl (fun κ X ret => ?_)
  have fr_w : ∀ j, (77 ≤ j) → w j = w j := fun _ _ => rfl
  refine r_iload_n X eX5_cost_0 rfl ?_
  refine cp_X5_78 X eX5_cost_1 (c_X5_isBit _ G b N w way) (by decide) rfl (Nat.le_of_ble_eq_true rfl) ?_
  refine r_ifeq_b (tgt := 11) X eX5_cost_4 (by decide) (fun c_1 => ?_) (fun c_1 => ?_)
  ·
    refine r_bipush X eX5_cost_11 ((-2 : Int32)) (by decide) ?_
    exact ret _ _ _ _ _ eX5_cost_13 (⟨(if_neg (fun q => c_1 q.1)).symm, hs, fr_w⟩)
  ·
    refine r_iload_n X eX5_cost_7 rfl ?_
    refine r_if_ge (tgt := 14) X eX5_cost_8 (by decide) rfl (fun c_2 => ?_) (fun c_2 => ?_)
    ·
      obtain ⟨nw, hnw, rfl, hi_nw⟩ := i2n (x := way) (by omega)
      obtain ⟨nm, hnm, rfl, hi_nm⟩ := i2n (x := m) (by omega)
      refine r_aload_n X eX5_cost_14 rfl ?_
      refine gf_X5_19 X eX5_cost_15 (by omega) z0 ?_
      refine r_aload_n X eX5_cost_18 rfl ?_
      refine gf_X5_10 X eX5_cost_19 (by omega) z0 ?_
      refine r_iload_n X eX5_cost_22 rfl ?_
      refine r_iload_n X eX5_cost_23 rfl ?_
      refine cv_X5_130 X eX5_cost_24 (p_read _ G b N w 1 (by omega) lw P hp 4 (by omega) _ _ _ _ _ hsm (by omega) nw (by omega) nm hnm) (by decide) (by omega) hso rfl (Nat.le_of_ble_eq_true rfl) (fun r3 w3 hp3 => ?_)
      obtain ⟨ro, ⟨tot2, pl2, hsm2, htot⟩, g3⟩ := hp3
      have z0_w3 := (g3 0 (by omega)).trans z0
      have hpo_w3 := (g3 1 (by omega)).trans hpo
      have hpdo_w3 := (g3 8 (by omega)).trans hpdo
      have hac_w3 := (g3 10 (by omega)).trans hac
      have him_w3 := (g3 69 (by omega)).trans him
      have hkf_w3 := (g3 76 (by omega)).trans hkf
      have m4_w3 : w3 4 = .inr (4, [.int (nI nw), .int tot2, .ref (b + 5), .ref (b + 6), .ref (b + 7)]) := hsm2.1
      have fr_w3 : ∀ j, (77 ≤ j) → w3 j = w j := fun j hj => (g3 j (by omega)).trans (fr_w j hj)
      have hs1 := sysC_S hs ⟨_, _, _, _, _, hsm2⟩ (fun j hj => g3 j (by omega))
      rw [ro]
      refine r_ifne_b (tgt := 33) X eX5_cost_27 (by decide) (fun c_5 => ?_) (fun c_5 => ?_)
      ·
        refine r_aload_n X eX5_cost_33 rfl ?_
        refine gf_X5_19 X eX5_cost_34 (by omega) z0_w3 ?_
        refine gf_X5_123 X eX5_cost_37 (by omega) m4_w3 ?_
        refine r_sipush X eX5_cost_40 ((10000 : Int32)) (by decide) ?_
        refine r_iadd X eX5_cost_43 (tot2 + ((10000 : Int32))) rfl ?_
        exact ret _ _ _ _ _ eX5_cost_44 (⟨by rw [aCost, if_pos ⟨c_1, by omega⟩, tn_nI hnw, tn_nI hnm, if_pos c_5, htot c_5], hs1, fr_w3⟩)
      ·
        refine r_bipush X eX5_cost_30 ((-5 : Int32)) (by decide) ?_
        exact ret _ _ _ _ _ eX5_cost_32 (⟨by rw [aCost, if_pos ⟨c_1, by omega⟩, tn_nI hnw, tn_nI hnm, if_neg c_5], hs1, fr_w3⟩)
    ·
      refine r_bipush X eX5_cost_11 ((-2 : Int32)) (by decide) ?_
      exact ret _ _ _ _ _ eX5_cost_13 (⟨(if_neg (fun q => absurd q.2 (by omega))).symm, hs, fr_w⟩)
set_option maxHeartbeats 4000000 in
set_option maxRecDepth 100000 in
theorem c_X5_cut (l : Launch) (G : Gs) (b N : Nat) (w : Wd) (hN : 77 ≤ N) (lw : Nat) (P : Pc) (n : Nat) (sg : Nat → Int32) (im : Nat → Nat × Pc) (kf : Nat → Int32) (hs : sysC G b w (lw, P, n, sg, im, kf)) (way : Int32) : CI l yX5_cut cX5_cut 2 (some .int) 5 G b N w [.ref (b + 0), .int way] (fun r w2 => r = (fCut lw P n sg im kf way).1 ∧ sysC G b w2 (fCut lw P n sg im kf way).2 ∧ ∀ j, (77 ≤ j) → w2 j = w j) := by
  obtain ⟨z0, hp, ⟨wy0, tt0, pl0, ce0, go0, hsm⟩, hpd, ⟨ac, hac⟩, hos, hct, him, hpi, hkf, hkb⟩ := id hs
  have hpo := hp.obj
  have hP := hp.ok
  obtain ⟨o1, o2, o3, o4⟩ := id hP
  have hlw := hp.lw
  have hso := hsm.1
  have hpdo := hpd.1
  have hn8 := hpd.2.2
  dsimp only at hp hpd hpi hkf hkb hpo hP o1 o2 o3 o4 hlw hpdo hn8
  refine CI_of (L0 := [some (.ref (b + 0)), some (.int way)]) (by decide) rfl (by simp [Value.category]) rfl (Nat.le_of_ble_eq_true rfl) rfl (fun κ X ret => ?_)
  have fr_w : ∀ j, (77 ≤ j) → w j = w j := fun _ _ => rfl
  refine r_iload_n X eX5_cut_0 rfl ?_
  refine cp_X5_78 X eX5_cut_1 (c_X5_isBit _ G b N w way) (by decide) rfl (Nat.le_of_ble_eq_true rfl) ?_
  refine r_ifne_b (tgt := 10) X eX5_cut_4 (by decide) (fun c_1 => ?_) (fun c_1 => ?_)
  ·
    obtain ⟨nw, hnw, rfl, hi_nw⟩ := i2n (x := way) (by omega)
    have hpos := hP.pos nw
    refine r_aload_n X eX5_cut_10 rfl ?_
    refine gf_X5_10 X eX5_cut_11 (by omega) z0 ?_
    refine r_iload_n X eX5_cut_14 rfl ?_
    refine cp_X5_134 X eX5_cut_15 (p_breadth _ G b N w 1 (by omega) lw P hp nw (by omega)) (by decide) (by omega) hpo rfl (Nat.le_of_ble_eq_true rfl) ?_
    refine r_iconst X eX5_cut_18 (nI 2) (by decide) ?_
    refine r_icmp_gt (tgt := 25) X eX5_cut_19 (by decide) (nI_toInt (by omega)) (nI_toInt (by omega)) (fun c_2 => ?_) (fun c_2 => ?_)
    ·
      refine r_aload_n X eX5_cut_25 rfl ?_
      refine gf_X5_19 X eX5_cut_26 (by omega) z0 ?_
      refine r_aload_n X eX5_cut_29 rfl ?_
      refine gf_X5_10 X eX5_cut_30 (by omega) z0 ?_
      refine r_iload_n X eX5_cut_33 rfl ?_
      refine cv_X5_119 X eX5_cut_34 (p_findLeast _ G b N w 4 (by omega) _ _ _ _ _ hsm 1 (by omega) (by omega) lw P hp nw (by omega)) (by decide) (by omega) hso rfl (Nat.le_of_ble_eq_true rfl) (fun w3 hp3 => ?_)
      obtain ⟨pl1, ce1, go1, hsm1, hok1, g3⟩ := hp3
      have z0_w3 := (g3 0 (by omega)).trans z0
      have hpo_w3 := (g3 1 (by omega)).trans hpo
      have hpdo_w3 := (g3 8 (by omega)).trans hpdo
      have hac_w3 := (g3 10 (by omega)).trans hac
      have him_w3 := (g3 69 (by omega)).trans him
      have hkf_w3 := (g3 76 (by omega)).trans hkf
      have m4_w3 : w3 4 = .inr (4, [.int (nI nw), .int (tA lw P nw), .ref (b + 5), .ref (b + 6), .ref (b + 7)]) := hsm1.1
      have m5_w3 : w3 5 = aI G 8 pl1 := hsm1.2.1
      have fr_w3 : ∀ j, (77 ≤ j) → w3 j = w j := fun j hj => (g3 j (by omega)).trans (fr_w j hj)
      have hs1 := sysC_S hs ⟨_, _, _, _, _, hsm1⟩ (fun j hj => g3 j (by omega))
      have hp1 := hp.fr (w2 := w3) (fun j h1 h2 => g3 j (by omega))
      refine r_aload_n X eX5_cut_37 rfl ?_
      refine gf_X5_10 X eX5_cut_38 (by omega) z0_w3 ?_
      refine r_aload_n X eX5_cut_41 rfl ?_
      refine gf_X5_19 X eX5_cut_42 (by omega) z0_w3 ?_
      refine cv_X5_137 X eX5_cut_45 (p_takeOut _ G b N w3 1 (by omega) lw P hp1 4 nw (by omega) (by omega) (by omega) _ _ _ _ hsm1 hok1 (by omega)) (by decide) (by omega) hpo_w3 rfl (Nat.le_of_ble_eq_true rfl) (fun w6 hp6 => ?_)
      obtain ⟨hq, g6⟩ := hp6
      have z0_w6 := (g6 0 (by omega)).trans z0_w3
      have hpdo_w6 := (g6 8 (by omega)).trans hpdo_w3
      have hac_w6 := (g6 10 (by omega)).trans hac_w3
      have him_w6 := (g6 69 (by omega)).trans him_w3
      have hkf_w6 := (g6 76 (by omega)).trans hkf_w3
      have m4_w6 := (g6 4 (by omega)).trans m4_w3
      have m5_w6 := (g6 5 (by omega)).trans m5_w3
      have m7_w6 : w6 1 = .inr (3, [.int (nI ((cutP lw P nw).1)), .int (nI ((cutP lw P nw).2.1)), .int (nI lw), .ref (b + 2), .ref (b + 3)]) := hq.obj
      have fr_w6 : ∀ j, (77 ≤ j) → w6 j = w j := fun j hj => (g6 j (by omega)).trans (fr_w3 j hj)
      have hs2 := sysC_P hs1 hq (fun j hj => g6 j (by omega))
      refine r_aload_n X eX5_cut_48 rfl ?_
      refine gf_X5_19 X eX5_cut_49 (by omega) z0_w6 ?_
      refine gf_X5_123 X eX5_cut_52 (by omega) m4_w6 ?_
      refine r_sipush X eX5_cut_55 ((10000 : Int32)) (by decide) ?_
      refine r_iadd X eX5_cut_58 ((tA lw P nw) + ((10000 : Int32))) rfl ?_
      exact ret _ _ _ _ _ eX5_cut_59 (by rw [show fCut lw P n sg im kf (nI nw) = (tA lw P nw + 10000, (lw, cutP lw P nw, n, sg, im, kf)) from by rw [fCut, if_pos c_1, tn_nI hnw, if_pos (by omega)]]; exact ⟨rfl, hs2, fr_w6⟩)
    ·
      refine r_bipush X eX5_cut_22 ((-3 : Int32)) (by decide) ?_
      exact ret _ _ _ _ _ eX5_cut_24 (by rw [show fCut lw P n sg im kf (nI nw) = (-3, (lw, P, n, sg, im, kf)) from by rw [fCut, if_pos c_1, tn_nI hnw, if_neg (by omega)]]; exact ⟨rfl, hs, fr_w⟩)
  ·
    refine r_bipush X eX5_cut_7 ((-2 : Int32)) (by decide) ?_
    exact ret _ _ _ _ _ eX5_cut_9 (by rw [show fCut lw P n sg im kf way = (-2, (lw, P, n, sg, im, kf)) from if_neg c_1]; exact ⟨rfl, hs, fr_w⟩)
set_option maxHeartbeats 4000000 in
set_option maxRecDepth 100000 in
theorem c_X5_add (l : Launch) (G : Gs) (b N : Nat) (w : Wd) (hN : 77 ≤ N) (lw : Nat) (P : Pc) (n : Nat) (sg : Nat → Int32) (im : Nat → Nat × Pc) (kf : Nat → Int32) (hs : sysC G b w (lw, P, n, sg, im, kf)) (way : Int32) : CI l yX5_add cX5_add 2 (some .int) 5 G b N w [.ref (b + 0), .int way] (fun r w2 => r = (fAdd lw P n sg im kf way).1 ∧ sysC G b w2 (fAdd lw P n sg im kf way).2 ∧ ∀ j, (77 ≤ j) → w2 j = w j) := by
  obtain ⟨z0, hp, ⟨wy0, tt0, pl0, ce0, go0, hsm⟩, hpd, ⟨ac, hac⟩, hos, hct, him, hpi, hkf, hkb⟩ := id hs
  have hpo := hp.obj
  have hP := hp.ok
  obtain ⟨o1, o2, o3, o4⟩ := id hP
  have hlw := hp.lw
  have hso := hsm.1
  have hpdo := hpd.1
  have hn8 := hpd.2.2
  dsimp only at hp hpd hpi hkf hkb hpo hP o1 o2 o3 o4 hlw hpdo hn8
  refine CI_of (L0 := [some (.ref (b + 0)), some (.int way)]) (by decide) rfl (by simp [Value.category]) rfl (Nat.le_of_ble_eq_true rfl) rfl (fun κ X ret => ?_)
  have fr_w : ∀ j, (77 ≤ j) → w j = w j := fun _ _ => rfl
  refine r_iload_n X eX5_add_0 rfl ?_
  refine cp_X5_78 X eX5_add_1 (c_X5_isBit _ G b N w way) (by decide) rfl (Nat.le_of_ble_eq_true rfl) ?_
  refine r_ifne_b (tgt := 10) X eX5_add_4 (by decide) (fun c_1 => ?_) (fun c_1 => ?_)
  ·
    obtain ⟨nw, hnw, rfl, hi_nw⟩ := i2n (x := way) (by omega)
    have hpos := hP.pos nw
    refine r_aload_n X eX5_add_10 rfl ?_
    refine gf_X5_10 X eX5_add_11 (by omega) z0 ?_
    refine r_iload_n X eX5_add_14 rfl ?_
    refine cp_X5_134 X eX5_add_15 (p_breadth _ G b N w 1 (by omega) lw P hp nw (by omega)) (by decide) (by omega) hpo rfl (Nat.le_of_ble_eq_true rfl) ?_
    refine r_bipush X eX5_add_18 (nI 8) (by decide) ?_
    refine r_icmp_lt (tgt := 26) X eX5_add_20 (by decide) (nI_toInt (by omega)) (nI_toInt (by omega)) (fun c_2 => ?_) (fun c_2 => ?_)
    ·
      refine r_aload_n X eX5_add_26 rfl ?_
      refine gf_X5_19 X eX5_add_27 (by omega) z0 ?_
      refine r_aload_n X eX5_add_30 rfl ?_
      refine gf_X5_10 X eX5_add_31 (by omega) z0 ?_
      refine r_iload_n X eX5_add_34 rfl ?_
      refine cv_X5_119 X eX5_add_35 (p_findLeast _ G b N w 4 (by omega) _ _ _ _ _ hsm 1 (by omega) (by omega) lw P hp nw (by omega)) (by decide) (by omega) hso rfl (Nat.le_of_ble_eq_true rfl) (fun w3 hp3 => ?_)
      obtain ⟨pl1, ce1, go1, hsm1, hok1, g3⟩ := hp3
      have z0_w3 := (g3 0 (by omega)).trans z0
      have hpo_w3 := (g3 1 (by omega)).trans hpo
      have hpdo_w3 := (g3 8 (by omega)).trans hpdo
      have hac_w3 := (g3 10 (by omega)).trans hac
      have him_w3 := (g3 69 (by omega)).trans him
      have hkf_w3 := (g3 76 (by omega)).trans hkf
      have m4_w3 : w3 4 = .inr (4, [.int (nI nw), .int (tA lw P nw), .ref (b + 5), .ref (b + 6), .ref (b + 7)]) := hsm1.1
      have m5_w3 : w3 5 = aI G 8 pl1 := hsm1.2.1
      have fr_w3 : ∀ j, (77 ≤ j) → w3 j = w j := fun j hj => (g3 j (by omega)).trans (fr_w j hj)
      have hs1 := sysC_S hs ⟨_, _, _, _, _, hsm1⟩ (fun j hj => g3 j (by omega))
      have hp1 := hp.fr (w2 := w3) (fun j h1 h2 => g3 j (by omega))
      refine r_aload_n X eX5_add_38 rfl ?_
      refine gf_X5_10 X eX5_add_39 (by omega) z0_w3 ?_
      refine r_aload_n X eX5_add_42 rfl ?_
      refine gf_X5_19 X eX5_add_43 (by omega) z0_w3 ?_
      refine cv_X5_141 X eX5_add_46 (p_putIn _ G b N w3 1 (by omega) lw P hp1 4 nw (by omega) (by omega) (by omega) _ _ _ _ hsm1 hok1 (by omega)) (by decide) (by omega) hpo_w3 rfl (Nat.le_of_ble_eq_true rfl) (fun w6 hp6 => ?_)
      obtain ⟨hq, g6⟩ := hp6
      have z0_w6 := (g6 0 (by omega)).trans z0_w3
      have hpdo_w6 := (g6 8 (by omega)).trans hpdo_w3
      have hac_w6 := (g6 10 (by omega)).trans hac_w3
      have him_w6 := (g6 69 (by omega)).trans him_w3
      have hkf_w6 := (g6 76 (by omega)).trans hkf_w3
      have m4_w6 := (g6 4 (by omega)).trans m4_w3
      have m5_w6 := (g6 5 (by omega)).trans m5_w3
      have m7_w6 : w6 1 = .inr (3, [.int (nI ((addP lw P nw).1)), .int (nI ((addP lw P nw).2.1)), .int (nI lw), .ref (b + 2), .ref (b + 3)]) := hq.obj
      have fr_w6 : ∀ j, (77 ≤ j) → w6 j = w j := fun j hj => (g6 j (by omega)).trans (fr_w3 j hj)
      have hs2 := sysC_P hs1 hq (fun j hj => g6 j (by omega))
      refine r_aload_n X eX5_add_49 rfl ?_
      refine gf_X5_19 X eX5_add_50 (by omega) z0_w6 ?_
      refine gf_X5_123 X eX5_add_53 (by omega) m4_w6 ?_
      refine r_sipush X eX5_add_56 ((10000 : Int32)) (by decide) ?_
      refine r_iadd X eX5_add_59 ((tA lw P nw) + ((10000 : Int32))) rfl ?_
      exact ret _ _ _ _ _ eX5_add_60 (by rw [show fAdd lw P n sg im kf (nI nw) = (tA lw P nw + 10000, (lw, addP lw P nw, n, sg, im, kf)) from by rw [fAdd, if_pos c_1, tn_nI hnw, if_pos (by omega)]]; exact ⟨rfl, hs2, fr_w6⟩)
    ·
      refine r_bipush X eX5_add_23 ((-3 : Int32)) (by decide) ?_
      exact ret _ _ _ _ _ eX5_add_25 (by rw [show fAdd lw P n sg im kf (nI nw) = (-3, (lw, P, n, sg, im, kf)) from by rw [fAdd, if_pos c_1, tn_nI hnw, if_neg (by omega)]]; exact ⟨rfl, hs, fr_w⟩)
  ·
    refine r_bipush X eX5_add_7 ((-2 : Int32)) (by decide) ?_
    exact ret _ _ _ _ _ eX5_add_9 (by rw [show fAdd lw P n sg im kf way = (-2, (lw, P, n, sg, im, kf)) from if_neg c_1]; exact ⟨rfl, hs, fr_w⟩)
set_option maxHeartbeats 4000000 in
set_option maxRecDepth 100000 in
theorem c_X5_least (l : Launch) (G : Gs) (b N : Nat) (w : Wd) (hN : 77 ≤ N) (lw : Nat) (P : Pc) (n : Nat) (sg : Nat → Int32) (im : Nat → Nat × Pc) (kf : Nat → Int32) (hs : sysC G b w (lw, P, n, sg, im, kf)) (way i : Int32) : CI l yX5_least cX5_least 3 (some .int) 5 G b N w [.ref (b + 0), .int way, .int i] (fun r w2 => r = aLeast P way i ∧ sysC G b w2 (lw, P, n, sg, im, kf) ∧ ∀ j, (77 ≤ j) → w2 j = w j) := by
  obtain ⟨z0, hp, ⟨wy0, tt0, pl0, ce0, go0, hsm⟩, hpd, ⟨ac, hac⟩, hos, hct, him, hpi, hkf, hkb⟩ := id hs
  have hpo := hp.obj
  have hP := hp.ok
  obtain ⟨o1, o2, o3, o4⟩ := id hP
  have hlw := hp.lw
  have hso := hsm.1
  have hpdo := hpd.1
  have hn8 := hpd.2.2
  dsimp only at hp hpd hpi hkf hkb hpo hP o1 o2 o3 o4 hlw hpdo hn8
  refine CI_of (L0 := [some (.ref (b + 0)), some (.int way), some (.int i)]) (by decide) rfl (by simp [Value.category]) rfl (Nat.le_of_ble_eq_true rfl) rfl (fun κ X ret => ?_)
  have fr_w : ∀ j, (77 ≤ j) → w j = w j := fun _ _ => rfl
  refine r_iload_n X eX5_least_0 rfl ?_
  refine cp_X5_78 X eX5_least_1 (c_X5_isBit _ G b N w way) (by decide) rfl (Nat.le_of_ble_eq_true rfl) ?_
  refine r_ifne_b (tgt := 10) X eX5_least_4 (by decide) (fun c_1 => ?_) (fun c_1 => ?_)
  ·
    obtain ⟨nw, hnw, rfl, hi_nw⟩ := i2n (x := way) (by omega)
    have hpos := hP.pos nw
    refine r_iload_n X eX5_least_10 rfl ?_
    refine r_if_lt (tgt := 26) X eX5_least_11 (by decide) rfl (fun c_2 => ?_) (fun c_2 => ?_)
    ·
      refine r_iconst X eX5_least_26 ((-1 : Int32)) (by decide) ?_
      exact ret _ _ _ _ _ eX5_least_27 (⟨by rw [aLeast, if_pos c_1, tn_nI hnw, if_neg (by omega)], hs, fr_w⟩)
    ·
      refine r_iload_n X eX5_least_14 rfl ?_
      refine r_aload_n X eX5_least_15 rfl ?_
      refine gf_X5_10 X eX5_least_16 (by omega) z0 ?_
      refine r_iload_n X eX5_least_19 rfl ?_
      refine cp_X5_116 X eX5_least_20 (p_lines _ G b N w 1 (by omega) lw P hp nw (by omega)) (by decide) (by omega) hpo rfl (Nat.le_of_ble_eq_true rfl) ?_
      refine r_icmp_lt (tgt := 28) X eX5_least_23 (by decide) rfl (nI_toInt (by omega)) (fun c_3 => ?_) (fun c_3 => ?_)
      ·
        obtain ⟨ni, hni, rfl, hi_ni⟩ := i2n (x := i) (by omega)
        refine r_iload_n X eX5_least_28 rfl ?_
        refine r_if_ne (tgt := 43) X eX5_least_29 (by decide) (nI_toInt (by omega)) (fun c_4 => ?_) (fun c_4 => ?_)
        ·
          obtain rfl : nw = 1 := by omega
          have hnl : nlP P 1 = P.1 := rfl
          refine r_aload_n X eX5_least_43 rfl ?_
          refine gf_X5_10 X eX5_least_44 (by omega) z0 ?_
          refine r_iload_n X eX5_least_47 rfl ?_
          refine cp_X5_147 X eX5_least_48 (p_col _ G b N w 1 (by omega) lw P hp ni (by omega)) (by decide) (by omega) hpo rfl (Nat.le_of_ble_eq_true rfl) ?_
          exact ret _ _ _ _ _ eX5_least_51 (⟨by rw [aLeast, if_pos c_1, tn_nI hnw, if_pos (by omega), tn_nI hni], hs, fr_w⟩)
        ·
          obtain rfl : nw = 0 := by omega
          have hnl : nlP P 0 = P.2.1 := rfl
          refine r_aload_n X eX5_least_32 rfl ?_
          refine gf_X5_10 X eX5_least_33 (by omega) z0 ?_
          refine r_iload_n X eX5_least_36 rfl ?_
          refine cp_X5_144 X eX5_least_37 (p_row _ G b N w 1 (by omega) lw P hp ni (by omega)) (by decide) (by omega) hpo rfl (Nat.le_of_ble_eq_true rfl) ?_
          refine r_goto (tgt := 51) X eX5_least_40 (by decide) ?_
          exact ret _ _ _ _ _ eX5_least_51 (⟨by rw [aLeast, if_pos c_1, tn_nI hnw, if_pos (by omega), tn_nI hni], hs, fr_w⟩)
      ·
        refine r_iconst X eX5_least_26 ((-1 : Int32)) (by decide) ?_
        exact ret _ _ _ _ _ eX5_least_27 (⟨by rw [aLeast, if_pos c_1, tn_nI hnw, if_neg (by omega)], hs, fr_w⟩)
  ·
    refine r_bipush X eX5_least_7 ((-2 : Int32)) (by decide) ?_
    exact ret _ _ _ _ _ eX5_least_9 (⟨(if_neg c_1).symm, hs, fr_w⟩)
set_option maxHeartbeats 4000000 in
set_option maxRecDepth 100000 in
theorem c_X5_best (l : Launch) (G : Gs) (b N : Nat) (w : Wd) (hN : 77 ≤ N) (lw : Nat) (P : Pc) (n : Nat) (sg : Nat → Int32) (im : Nat → Nat × Pc) (kf : Nat → Int32) (hs : sysC G b w (lw, P, n, sg, im, kf)) (x y what : Int32) : CI l yX5_best cX5_best 4 (some .int) 13 G b N w [.ref (b + 0), .int x, .int y, .int what] (fun r w2 => r = aBest lw P x y what ∧ sysC G b w2 (lw, P, n, sg, im, kf) ∧ ∀ j, (77 ≤ j) → w2 j = w j) := by
  obtain ⟨z0, hp, ⟨wy0, tt0, pl0, ce0, go0, hsm⟩, hpd, ⟨ac, hac⟩, hos, hct, him, hpi, hkf, hkb⟩ := id hs
  have hpo := hp.obj
  have hP := hp.ok
  obtain ⟨o1, o2, o3, o4⟩ := id hP
  have hlw := hp.lw
  have hso := hsm.1
  have hpdo := hpd.1
  have hn8 := hpd.2.2
  dsimp only at hp hpd hpi hkf hkb hpo hP o1 o2 o3 o4 hlw hpdo hn8
  refine CI_of (L0 := [some (.ref (b + 0)), some (.int x), some (.int y), some (.int what)]) (by decide) rfl (by simp [Value.category]) rfl (Nat.le_of_ble_eq_true rfl) rfl (fun κ X ret => ?_)
  have fr_w : ∀ j, (77 ≤ j) → w j = w j := fun _ _ => rfl
  refine r_aload_n X eX5_best_0 rfl ?_
  refine r_iload_n X eX5_best_1 rfl ?_
  refine r_iload_n X eX5_best_2 rfl ?_
  refine cp_X5_150 X eX5_best_3 (c_X5_canReach _ G b N w hN lw P n sg im kf hs x y) (by decide) (by omega) z0 rfl (Nat.le_of_ble_eq_true rfl) ?_
  refine r_ifeq_b (tgt := 18) X eX5_best_6 (by decide) (fun c_1 => ?_) (fun c_1 => ?_)
  ·
    refine r_bipush X eX5_best_18 ((-2 : Int32)) (by decide) ?_
    exact ret _ _ _ _ _ eX5_best_20 (⟨(if_neg (fun q => c_1 q.1)).symm, hs, fr_w⟩)
  ·
    refine r_iload_n X eX5_best_9 rfl ?_
    refine r_if_lt (tgt := 18) X eX5_best_10 (by decide) rfl (fun c_2 => ?_) (fun c_2 => ?_)
    ·
      refine r_bipush X eX5_best_18 ((-2 : Int32)) (by decide) ?_
      exact ret _ _ _ _ _ eX5_best_20 (⟨(if_neg (fun q => absurd q.2 (by omega))).symm, hs, fr_w⟩)
    ·
      refine r_iload_n X eX5_best_13 rfl ?_
      refine r_iconst X eX5_best_14 (nI 3) (by decide) ?_
      refine r_icmp_le (tgt := 21) X eX5_best_15 (by decide) rfl (nI_toInt (by omega)) (fun c_3 => ?_) (fun c_3 => ?_)
      ·
        obtain ⟨na, hna, rfl, hi_na⟩ := i2n (x := x) (by omega)
        obtain ⟨ne, hne, rfl, hi_ne⟩ := i2n (x := y) (by omega)
        refine r_aload_n X eX5_best_21 rfl ?_
        refine gf_X5_33 X eX5_best_22 (by omega) z0 ?_
        refine r_aload_n X eX5_best_25 rfl ?_
        refine gf_X5_10 X eX5_best_26 (by omega) z0 ?_
        refine r_iload_n X eX5_best_29 rfl ?_
        refine r_iload_n X eX5_best_30 rfl ?_
        refine cv_X5_153 X eX5_best_31 (c_X1_findBest _ G b N w 10 (by omega) ac hac hos 1 (by omega) (by omega) lw P hp na ne (by omega) (by omega) (by omega)) (by decide) (by omega) hac rfl (Nat.le_of_ble_eq_true rfl) (fun w4 hp4 => ?_)
        obtain ⟨⟨ac0, hz0, hac2⟩, hos2, g4⟩ := hp4
        rw [show trS lw (na + ne) na ne [] 0 0 P ac0 = bsA lw P na ne from trS_ind (na + ne) na ne [] 0 0 P ac0 _ rfl hz0 rfl] at hac2
        have z0_w4 := (g4 0 (by omega)).trans z0
        have hpo_w4 := (g4 1 (by omega)).trans hpo
        have hso_w4 := (g4 4 (by omega)).trans hso
        have hpdo_w4 := (g4 8 (by omega)).trans hpdo
        have him_w4 := (g4 69 (by omega)).trans him
        have hkf_w4 := (g4 76 (by omega)).trans hkf
        have m5_w4 : w4 10 = .inr (1, [.int ((bsA lw P na ne).1), .int (nI (enc (bsA lw P na ne).2.1)), .int ((bsA lw P na ne).2.2.1), .int (nI ((bsA lw P na ne).2.2.2)), .ref (b + 11), .ref (b + 33)]) := hac2
        have fr_w4 : ∀ j, (77 ≤ j) → w4 j = w j := fun j hj => (g4 j (by omega)).trans (fr_w j hj)
        have hs2 := sysC_O hs hac2 hos2 (fun j hj => g4 j (by omega))
        refine r_iload_n X eX5_best_34 rfl ?_
        by_cases s_6 : what.toInt = 0
        ·
          refine r_tabIn (tgt := 60) X eX5_best_35 0 s_6 (by decide) (by decide) rfl (by decide) ?_
          refine r_aload_n X eX5_best_60 rfl ?_
          refine gf_X5_33 X eX5_best_61 (by omega) z0_w4 ?_
          refine gf_X5_157 X eX5_best_64 (by omega) m5_w4 ?_
          refine r_sipush X eX5_best_67 ((10000 : Int32)) (by decide) ?_
          refine r_iadd X eX5_best_70 (((bsA lw P na ne).1) + ((10000 : Int32))) rfl ?_
          exact ret _ _ _ _ _ eX5_best_71 (⟨by rw [aBest, if_pos ⟨c_1, by omega, by omega⟩, if_pos (by omega), tn_nI hna, tn_nI hne], hs2, fr_w4⟩)
        by_cases s_7 : what.toInt = 1
        ·
          refine r_tabIn (tgt := 72) X eX5_best_35 1 s_7 (by decide) (by decide) rfl (by decide) ?_
          refine r_aload_n X eX5_best_72 rfl ?_
          refine gf_X5_33 X eX5_best_73 (by omega) z0_w4 ?_
          refine gf_X5_160 X eX5_best_76 (by omega) m5_w4 ?_
          exact ret _ _ _ _ _ eX5_best_79 (⟨by rw [aBest, if_pos ⟨c_1, by omega, by omega⟩, if_neg (by omega), if_pos (by omega), tn_nI hna, tn_nI hne], hs2, fr_w4⟩)
        by_cases s_8 : what.toInt = 2
        ·
          refine r_tabIn (tgt := 80) X eX5_best_35 2 s_8 (by decide) (by decide) rfl (by decide) ?_
          refine r_aload_n X eX5_best_80 rfl ?_
          refine gf_X5_33 X eX5_best_81 (by omega) z0_w4 ?_
          refine gf_X5_163 X eX5_best_84 (by omega) m5_w4 ?_
          exact ret _ _ _ _ _ eX5_best_87 (⟨by rw [aBest, if_pos ⟨c_1, by omega, by omega⟩, if_neg (by omega), if_neg (by omega), if_pos (by omega), tn_nI hna, tn_nI hne], hs2, fr_w4⟩)
        refine r_tabOut (tgt := 88) X eX5_best_35 (by omega) (by decide) ?_
        refine r_aload_n X eX5_best_88 rfl ?_
        refine gf_X5_33 X eX5_best_89 (by omega) z0_w4 ?_
        refine gf_X5_166 X eX5_best_92 (by omega) m5_w4 ?_
        exact ret _ _ _ _ _ eX5_best_95 (⟨by rw [aBest, if_pos ⟨c_1, by omega, by omega⟩, if_neg (by omega), if_neg (by omega), if_neg (by omega), tn_nI hna, tn_nI hne], hs2, fr_w4⟩)
      ·
        refine r_bipush X eX5_best_18 ((-2 : Int32)) (by decide) ?_
        exact ret _ _ _ _ _ eX5_best_20 (⟨(if_neg (fun q => absurd q.2 (by omega))).symm, hs, fr_w⟩)
set_option maxHeartbeats 4000000 in
set_option maxRecDepth 100000 in
theorem c_X5_table (l : Launch) (G : Gs) (b N : Nat) (w : Wd) (hN : 77 ≤ N) (lw : Nat) (P : Pc) (n : Nat) (sg : Nat → Int32) (im : Nat → Nat × Pc) (kf : Nat → Int32) (hs : sysC G b w (lw, P, n, sg, im, kf)) (x y what : Int32) : CI l yX5_table cX5_table 6 (some .int) 7 G b N w [.ref (b + 0), .int x, .int y, .int what] (fun r w2 => r = aTable lw P x y what ∧ sysC G b w2 (lw, P, n, sg, im, kf) ∧ ∀ j, (77 ≤ j) → w2 j = w j) := by
  obtain ⟨z0, hp, ⟨wy0, tt0, pl0, ce0, go0, hsm⟩, hpd, ⟨ac, hac⟩, hos, hct, him, hpi, hkf, hkb⟩ := id hs
  have hpo := hp.obj
  have hP := hp.ok
  obtain ⟨o1, o2, o3, o4⟩ := id hP
  have hlw := hp.lw
  have hso := hsm.1
  have hpdo := hpd.1
  have hn8 := hpd.2.2
  dsimp only at hp hpd hpi hkf hkb hpo hP o1 o2 o3 o4 hlw hpdo hn8
  refine CI_of (L0 := [some (.ref (b + 0)), some (.int x), some (.int y), some (.int what), none, none]) (by decide) rfl (by simp [Value.category]) rfl (Nat.le_of_ble_eq_true rfl) rfl (fun κ X ret => ?_)
  have fr_w : ∀ j, (77 ≤ j) → w j = w j := fun _ _ => rfl
  refine r_aload_n X eX5_table_0 rfl ?_
  refine r_iload_n X eX5_table_1 rfl ?_
  refine r_iload_n X eX5_table_2 rfl ?_
  refine cp_X5_150 X eX5_table_3 (c_X5_canReach _ G b N w hN lw P n sg im kf hs x y) (by decide) (by omega) z0 rfl (Nat.le_of_ble_eq_true rfl) ?_
  refine r_ifeq_b (tgt := 25) X eX5_table_6 (by decide) (fun c_1 => ?_) (fun c_1 => ?_)
  ·
    refine r_bipush X eX5_table_25 ((-2 : Int32)) (by decide) ?_
    exact ret _ _ _ _ _ eX5_table_27 (⟨(if_neg (fun q => c_1 q.1)).symm, hs, fr_w⟩)
  ·
    refine r_iload_n X eX5_table_9 rfl ?_
    refine r_if_eq (tgt := 28) X eX5_table_10 (by decide) rfl (fun c_2 => ?_) (fun c_2 => ?_)
    ·
      obtain ⟨na, hna, rfl, hi_na⟩ := i2n (x := x) (by omega)
      obtain ⟨ne, hne, rfl, hi_ne⟩ := i2n (x := y) (by omega)
      obtain ⟨nt, hnt, rfl, hi_nt⟩ := i2n (x := what) (by omega)
      refine r_iload_n X eX5_table_28 rfl ?_
      refine r_bipush X eX5_table_29 (nI 10) (by decide) ?_
      refine r_idiv X eX5_table_31 (nI_ne0 (by omega) (by omega)) (nI (nt / 10)) (pk_div (by omega) (by omega) (by omega)) ?_
      refine r_iconst X eX5_table_32 (nI 1) (by decide) ?_
      refine r_isub X eX5_table_33 (nP (nt / 10)) (subP _) ?_
      refine r_istore X eX5_table_34 (Nat.le_of_ble_eq_true rfl) (L2 := [some (.ref (b + 0)), some (.int (nI na)), some (.int (nI ne)), some (.int (nI nt)), some (.int (nP (nt / 10))), none]) rfl ?_
      refine r_iload_n X eX5_table_36 rfl ?_
      refine r_bipush X eX5_table_37 (nI 10) (by decide) ?_
      refine r_irem X eX5_table_39 (nI_ne0 (by omega) (by omega)) (nI (nt % 10)) (pk_rem (by omega) (by omega) (by omega)) ?_
      refine r_istore X eX5_table_40 (Nat.le_of_ble_eq_true rfl) (L2 := [some (.ref (b + 0)), some (.int (nI na)), some (.int (nI ne)), some (.int (nI nt)), some (.int (nP (nt / 10))), some (.int (nI (nt % 10)))]) rfl ?_
      refine r_iload_n X eX5_table_42 rfl ?_
      refine r_if_eq (tgt := 77) X eX5_table_43 (by decide) (nI_toInt (by omega)) (fun c_3 => ?_) (fun c_3 => ?_)
      ·
        refine r_aload_n X eX5_table_77 rfl ?_
        refine gf_X5_40 X eX5_table_78 (by omega) z0 ?_
        refine r_aload_n X eX5_table_81 rfl ?_
        refine gf_X5_10 X eX5_table_82 (by omega) z0 ?_
        refine r_iload_n X eX5_table_85 rfl ?_
        refine r_iload_n X eX5_table_86 rfl ?_
        refine cv_X5_169 X eX5_table_87 (c_X0_fillTo _ G b N w 37 (by omega) hct 1 (by omega) (by omega) lw P hp na ne (by omega) (by omega) (by omega)) (by decide) (by omega) hct.1 rfl (Nat.le_of_ble_eq_true rfl) (fun w4 hp4 => ?_)
        obtain ⟨⟨cs, hcs, hcse⟩, hqe, hct2, g4⟩ := hp4
        have z0_w4 := (g4 0 (by omega)).trans z0
        have hpo_w4 := (g4 1 (by omega)).trans hpo
        have hso_w4 := (g4 4 (by omega)).trans hso
        have hpdo_w4 := (g4 8 (by omega)).trans hpdo
        have hac_w4 := (g4 10 (by omega)).trans hac
        have him_w4 := (g4 69 (by omega)).trans him
        have hkf_w4 := (g4 76 (by omega)).trans hkf
        have m5_w4 : w4 37 = .inr (0, [.ref (b + 38), .ref (b + 60), .ref (b + 61), .ref (b + 65)]) := hct2.1
        have m6_w4 : w4 38 = aP G 7 (fun i => some (b + (37 + 3 * i + 2))) := hct2.2.1
        have m7_w4 : w4 60 = aI G 7 cs := hcs
        have fr_w4 : ∀ j, (77 ≤ j) → w4 j = w j := fun j hj => (g4 j (by omega)).trans (fr_w j hj)
        have hs2 := sysC_T hs hct2 (fun j hj => g4 j (by omega))
        have hdm := tb_dim lw P na ne
        obtain ⟨ke, hke⟩ : ∃ ke, ke = 37 + 3 * ne + 2 := ⟨_, rfl⟩
        rw [← hke] at hqe
        refine r_iload_n X eX5_table_90 rfl ?_
        refine r_if_ne (tgt := 110) X eX5_table_91 (by decide) (nI_toInt (by omega)) (fun c_8 => ?_) (fun c_8 => ?_)
        ·
          rw [nP_pos (show 0 < nt / 10 by omega)]
          refine r_aload_n X eX5_table_110 rfl ?_
          refine gf_X5_40 X eX5_table_111 (by omega) z0_w4 ?_
          refine gf_X5_175 X eX5_table_114 (by omega) m5_w4 ?_
          refine r_iload_n X eX5_table_117 rfl ?_
          refine r_aald (a := b + ke) X eX5_table_118 (by omega) m6_w4 (by omega) (by decide) (by rw [hke]) ?_
          refine r_iconst X eX5_table_119 (nI 0) (by decide) ?_
          refine r_iload X eX5_table_120 rfl ?_
          refine r_iload X eX5_table_122 rfl ?_
          refine cp_X5_84 X eX5_table_124 (p_greyAt _ G b N w4 ke (by omega) lw (tb lw P na ne).2 hqe (nt / 10 - 1) (nt % 10) (by omega) (by omega)) (by decide) (by omega) hqe.obj rfl (Nat.le_of_ble_eq_true rfl) ?_
          exact ret _ _ _ _ _ eX5_table_127 (⟨by rw [aTable, if_pos ⟨c_1, by omega⟩, if_neg (by omega), tn_nI hna, tn_nI hne, tn_nI hnt, if_pos (by omega)], hs2, fr_w4⟩)
        ·
          refine r_aload_n X eX5_table_94 rfl ?_
          refine gf_X5_40 X eX5_table_95 (by omega) z0_w4 ?_
          refine gf_X5_172 X eX5_table_98 (by omega) m5_w4 ?_
          refine r_iload_n X eX5_table_101 rfl ?_
          refine r_iald X eX5_table_102 (by omega) m7_w4 (by omega) (by decide) ?_
          refine r_top (y := (tb lw P na ne).1) hcse ?_
          refine r_sipush X eX5_table_103 ((10000 : Int32)) (by decide) ?_
          refine r_iadd X eX5_table_106 (((tb lw P na ne).1) + ((10000 : Int32))) rfl ?_
          refine r_goto (tgt := 127) X eX5_table_107 (by decide) ?_
          exact ret _ _ _ _ _ eX5_table_127 (⟨by rw [aTable, if_pos ⟨c_1, by omega⟩, if_pos (by omega), tn_nI hna, tn_nI hne], hs2, fr_w4⟩)
      ·
        refine r_iload X eX5_table_46 rfl ?_
        refine r_aload_n X eX5_table_48 rfl ?_
        refine gf_X5_10 X eX5_table_49 (by omega) z0 ?_
        refine gf_X5_56 X eX5_table_52 (by omega) hpo ?_
        refine r_iload_n X eX5_table_55 rfl ?_
        refine r_isub X eX5_table_56 (nI (P.1 - na)) (pk_sub (by omega)) ?_
        refine r_icmp_ge (tgt := 74) X eX5_table_57 (by decide) (nP_toInt (by omega)) (nI_toInt (by omega)) (fun c_9 => ?_) (fun c_9 => ?_)
        ·
          refine r_bipush X eX5_table_74 ((-6 : Int32)) (by decide) ?_
          exact ret _ _ _ _ _ eX5_table_76 (⟨by rw [aTable, if_pos ⟨c_1, by omega⟩, if_neg (by omega), tn_nI hna, tn_nI hne, tn_nI hnt, if_neg (by omega)], hs, fr_w⟩)
        ·
          refine r_iload X eX5_table_60 rfl ?_
          refine r_aload_n X eX5_table_62 rfl ?_
          refine gf_X5_10 X eX5_table_63 (by omega) z0 ?_
          refine gf_X5_60 X eX5_table_66 (by omega) hpo ?_
          refine r_iload_n X eX5_table_69 rfl ?_
          refine r_isub X eX5_table_70 (nI (P.2.1 - ne)) (pk_sub (by omega)) ?_
          refine r_icmp_lt (tgt := 77) X eX5_table_71 (by decide) (nI_toInt (by omega)) (nI_toInt (by omega)) (fun c_10 => ?_) (fun c_10 => ?_)
          ·
            refine r_aload_n X eX5_table_77 rfl ?_
            refine gf_X5_40 X eX5_table_78 (by omega) z0 ?_
            refine r_aload_n X eX5_table_81 rfl ?_
            refine gf_X5_10 X eX5_table_82 (by omega) z0 ?_
            refine r_iload_n X eX5_table_85 rfl ?_
            refine r_iload_n X eX5_table_86 rfl ?_
            refine cv_X5_169 X eX5_table_87 (c_X0_fillTo _ G b N w 37 (by omega) hct 1 (by omega) (by omega) lw P hp na ne (by omega) (by omega) (by omega)) (by decide) (by omega) hct.1 rfl (Nat.le_of_ble_eq_true rfl) (fun w11 hp11 => ?_)
            obtain ⟨⟨cs, hcs, hcse⟩, hqe, hct2, g11⟩ := hp11
            have z0_w11 := (g11 0 (by omega)).trans z0
            have hpo_w11 := (g11 1 (by omega)).trans hpo
            have hso_w11 := (g11 4 (by omega)).trans hso
            have hpdo_w11 := (g11 8 (by omega)).trans hpdo
            have hac_w11 := (g11 10 (by omega)).trans hac
            have him_w11 := (g11 69 (by omega)).trans him
            have hkf_w11 := (g11 76 (by omega)).trans hkf
            have m12_w11 : w11 37 = .inr (0, [.ref (b + 38), .ref (b + 60), .ref (b + 61), .ref (b + 65)]) := hct2.1
            have m13_w11 : w11 38 = aP G 7 (fun i => some (b + (37 + 3 * i + 2))) := hct2.2.1
            have m14_w11 : w11 60 = aI G 7 cs := hcs
            have fr_w11 : ∀ j, (77 ≤ j) → w11 j = w j := fun j hj => (g11 j (by omega)).trans (fr_w j hj)
            have hs2 := sysC_T hs hct2 (fun j hj => g11 j (by omega))
            have hdm := tb_dim lw P na ne
            obtain ⟨ke, hke⟩ : ∃ ke, ke = 37 + 3 * ne + 2 := ⟨_, rfl⟩
            rw [← hke] at hqe
            refine r_iload_n X eX5_table_90 rfl ?_
            refine r_if_ne (tgt := 110) X eX5_table_91 (by decide) (nI_toInt (by omega)) (fun c_15 => ?_) (fun c_15 => ?_)
            ·
              rw [nP_pos (show 0 < nt / 10 by omega)]
              refine r_aload_n X eX5_table_110 rfl ?_
              refine gf_X5_40 X eX5_table_111 (by omega) z0_w11 ?_
              refine gf_X5_175 X eX5_table_114 (by omega) m12_w11 ?_
              refine r_iload_n X eX5_table_117 rfl ?_
              refine r_aald (a := b + ke) X eX5_table_118 (by omega) m13_w11 (by omega) (by decide) (by rw [hke]) ?_
              refine r_iconst X eX5_table_119 (nI 0) (by decide) ?_
              refine r_iload X eX5_table_120 rfl ?_
              refine r_iload X eX5_table_122 rfl ?_
              refine cp_X5_84 X eX5_table_124 (p_greyAt _ G b N w11 ke (by omega) lw (tb lw P na ne).2 hqe (nt / 10 - 1) (nt % 10) (by omega) (by omega)) (by decide) (by omega) hqe.obj rfl (Nat.le_of_ble_eq_true rfl) ?_
              exact ret _ _ _ _ _ eX5_table_127 (⟨by rw [aTable, if_pos ⟨c_1, by omega⟩, if_neg (by omega), tn_nI hna, tn_nI hne, tn_nI hnt, if_pos (by omega)], hs2, fr_w11⟩)
            ·
              refine r_aload_n X eX5_table_94 rfl ?_
              refine gf_X5_40 X eX5_table_95 (by omega) z0_w11 ?_
              refine gf_X5_172 X eX5_table_98 (by omega) m12_w11 ?_
              refine r_iload_n X eX5_table_101 rfl ?_
              refine r_iald X eX5_table_102 (by omega) m14_w11 (by omega) (by decide) ?_
              refine r_top (y := (tb lw P na ne).1) hcse ?_
              refine r_sipush X eX5_table_103 ((10000 : Int32)) (by decide) ?_
              refine r_iadd X eX5_table_106 (((tb lw P na ne).1) + ((10000 : Int32))) rfl ?_
              refine r_goto (tgt := 127) X eX5_table_107 (by decide) ?_
              exact ret _ _ _ _ _ eX5_table_127 (⟨by rw [aTable, if_pos ⟨c_1, by omega⟩, if_pos (by omega), tn_nI hna, tn_nI hne], hs2, fr_w11⟩)
          ·
            refine r_bipush X eX5_table_74 ((-6 : Int32)) (by decide) ?_
            exact ret _ _ _ _ _ eX5_table_76 (⟨by rw [aTable, if_pos ⟨c_1, by omega⟩, if_neg (by omega), tn_nI hna, tn_nI hne, tn_nI hnt, if_neg (by omega)], hs, fr_w⟩)
    ·
      refine r_iload_n X eX5_table_13 rfl ?_
      refine r_bipush X eX5_table_14 (nI 10) (by decide) ?_
      refine r_icmp_lt (tgt := 25) X eX5_table_16 (by decide) rfl (nI_toInt (by omega)) (fun c_16 => ?_) (fun c_16 => ?_)
      ·
        refine r_bipush X eX5_table_25 ((-2 : Int32)) (by decide) ?_
        exact ret _ _ _ _ _ eX5_table_27 (⟨(if_neg (fun q => absurd q.2 (by omega))).symm, hs, fr_w⟩)
      ·
        refine r_iload_n X eX5_table_19 rfl ?_
        refine r_bipush X eX5_table_20 (nI 89) (by decide) ?_
        refine r_icmp_le (tgt := 28) X eX5_table_22 (by decide) rfl (nI_toInt (by omega)) (fun c_17 => ?_) (fun c_17 => ?_)
        ·
          obtain ⟨na, hna, rfl, hi_na⟩ := i2n (x := x) (by omega)
          obtain ⟨ne, hne, rfl, hi_ne⟩ := i2n (x := y) (by omega)
          obtain ⟨nt, hnt, rfl, hi_nt⟩ := i2n (x := what) (by omega)
          refine r_iload_n X eX5_table_28 rfl ?_
          refine r_bipush X eX5_table_29 (nI 10) (by decide) ?_
          refine r_idiv X eX5_table_31 (nI_ne0 (by omega) (by omega)) (nI (nt / 10)) (pk_div (by omega) (by omega) (by omega)) ?_
          refine r_iconst X eX5_table_32 (nI 1) (by decide) ?_
          refine r_isub X eX5_table_33 (nP (nt / 10)) (subP _) ?_
          refine r_istore X eX5_table_34 (Nat.le_of_ble_eq_true rfl) (L2 := [some (.ref (b + 0)), some (.int (nI na)), some (.int (nI ne)), some (.int (nI nt)), some (.int (nP (nt / 10))), none]) rfl ?_
          refine r_iload_n X eX5_table_36 rfl ?_
          refine r_bipush X eX5_table_37 (nI 10) (by decide) ?_
          refine r_irem X eX5_table_39 (nI_ne0 (by omega) (by omega)) (nI (nt % 10)) (pk_rem (by omega) (by omega) (by omega)) ?_
          refine r_istore X eX5_table_40 (Nat.le_of_ble_eq_true rfl) (L2 := [some (.ref (b + 0)), some (.int (nI na)), some (.int (nI ne)), some (.int (nI nt)), some (.int (nP (nt / 10))), some (.int (nI (nt % 10)))]) rfl ?_
          refine r_iload_n X eX5_table_42 rfl ?_
          refine r_if_eq (tgt := 77) X eX5_table_43 (by decide) (nI_toInt (by omega)) (fun c_18 => ?_) (fun c_18 => ?_)
          ·
            refine r_aload_n X eX5_table_77 rfl ?_
            refine gf_X5_40 X eX5_table_78 (by omega) z0 ?_
            refine r_aload_n X eX5_table_81 rfl ?_
            refine gf_X5_10 X eX5_table_82 (by omega) z0 ?_
            refine r_iload_n X eX5_table_85 rfl ?_
            refine r_iload_n X eX5_table_86 rfl ?_
            refine cv_X5_169 X eX5_table_87 (c_X0_fillTo _ G b N w 37 (by omega) hct 1 (by omega) (by omega) lw P hp na ne (by omega) (by omega) (by omega)) (by decide) (by omega) hct.1 rfl (Nat.le_of_ble_eq_true rfl) (fun w19 hp19 => ?_)
            obtain ⟨⟨cs, hcs, hcse⟩, hqe, hct2, g19⟩ := hp19
            have z0_w19 := (g19 0 (by omega)).trans z0
            have hpo_w19 := (g19 1 (by omega)).trans hpo
            have hso_w19 := (g19 4 (by omega)).trans hso
            have hpdo_w19 := (g19 8 (by omega)).trans hpdo
            have hac_w19 := (g19 10 (by omega)).trans hac
            have him_w19 := (g19 69 (by omega)).trans him
            have hkf_w19 := (g19 76 (by omega)).trans hkf
            have m20_w19 : w19 37 = .inr (0, [.ref (b + 38), .ref (b + 60), .ref (b + 61), .ref (b + 65)]) := hct2.1
            have m21_w19 : w19 38 = aP G 7 (fun i => some (b + (37 + 3 * i + 2))) := hct2.2.1
            have m22_w19 : w19 60 = aI G 7 cs := hcs
            have fr_w19 : ∀ j, (77 ≤ j) → w19 j = w j := fun j hj => (g19 j (by omega)).trans (fr_w j hj)
            have hs2 := sysC_T hs hct2 (fun j hj => g19 j (by omega))
            have hdm := tb_dim lw P na ne
            obtain ⟨ke, hke⟩ : ∃ ke, ke = 37 + 3 * ne + 2 := ⟨_, rfl⟩
            rw [← hke] at hqe
            refine r_iload_n X eX5_table_90 rfl ?_
            refine r_if_ne (tgt := 110) X eX5_table_91 (by decide) (nI_toInt (by omega)) (fun c_23 => ?_) (fun c_23 => ?_)
            ·
              rw [nP_pos (show 0 < nt / 10 by omega)]
              refine r_aload_n X eX5_table_110 rfl ?_
              refine gf_X5_40 X eX5_table_111 (by omega) z0_w19 ?_
              refine gf_X5_175 X eX5_table_114 (by omega) m20_w19 ?_
              refine r_iload_n X eX5_table_117 rfl ?_
              refine r_aald (a := b + ke) X eX5_table_118 (by omega) m21_w19 (by omega) (by decide) (by rw [hke]) ?_
              refine r_iconst X eX5_table_119 (nI 0) (by decide) ?_
              refine r_iload X eX5_table_120 rfl ?_
              refine r_iload X eX5_table_122 rfl ?_
              refine cp_X5_84 X eX5_table_124 (p_greyAt _ G b N w19 ke (by omega) lw (tb lw P na ne).2 hqe (nt / 10 - 1) (nt % 10) (by omega) (by omega)) (by decide) (by omega) hqe.obj rfl (Nat.le_of_ble_eq_true rfl) ?_
              exact ret _ _ _ _ _ eX5_table_127 (⟨by rw [aTable, if_pos ⟨c_1, by omega⟩, if_neg (by omega), tn_nI hna, tn_nI hne, tn_nI hnt, if_pos (by omega)], hs2, fr_w19⟩)
            ·
              refine r_aload_n X eX5_table_94 rfl ?_
              refine gf_X5_40 X eX5_table_95 (by omega) z0_w19 ?_
              refine gf_X5_172 X eX5_table_98 (by omega) m20_w19 ?_
              refine r_iload_n X eX5_table_101 rfl ?_
              refine r_iald X eX5_table_102 (by omega) m22_w19 (by omega) (by decide) ?_
              refine r_top (y := (tb lw P na ne).1) hcse ?_
              refine r_sipush X eX5_table_103 ((10000 : Int32)) (by decide) ?_
              refine r_iadd X eX5_table_106 (((tb lw P na ne).1) + ((10000 : Int32))) rfl ?_
              refine r_goto (tgt := 127) X eX5_table_107 (by decide) ?_
              exact ret _ _ _ _ _ eX5_table_127 (⟨by rw [aTable, if_pos ⟨c_1, by omega⟩, if_pos (by omega), tn_nI hna, tn_nI hne], hs2, fr_w19⟩)
          ·
            refine r_iload X eX5_table_46 rfl ?_
            refine r_aload_n X eX5_table_48 rfl ?_
            refine gf_X5_10 X eX5_table_49 (by omega) z0 ?_
            refine gf_X5_56 X eX5_table_52 (by omega) hpo ?_
            refine r_iload_n X eX5_table_55 rfl ?_
            refine r_isub X eX5_table_56 (nI (P.1 - na)) (pk_sub (by omega)) ?_
            refine r_icmp_ge (tgt := 74) X eX5_table_57 (by decide) (nP_toInt (by omega)) (nI_toInt (by omega)) (fun c_24 => ?_) (fun c_24 => ?_)
            ·
              refine r_bipush X eX5_table_74 ((-6 : Int32)) (by decide) ?_
              exact ret _ _ _ _ _ eX5_table_76 (⟨by rw [aTable, if_pos ⟨c_1, by omega⟩, if_neg (by omega), tn_nI hna, tn_nI hne, tn_nI hnt, if_neg (by omega)], hs, fr_w⟩)
            ·
              refine r_iload X eX5_table_60 rfl ?_
              refine r_aload_n X eX5_table_62 rfl ?_
              refine gf_X5_10 X eX5_table_63 (by omega) z0 ?_
              refine gf_X5_60 X eX5_table_66 (by omega) hpo ?_
              refine r_iload_n X eX5_table_69 rfl ?_
              refine r_isub X eX5_table_70 (nI (P.2.1 - ne)) (pk_sub (by omega)) ?_
              refine r_icmp_lt (tgt := 77) X eX5_table_71 (by decide) (nI_toInt (by omega)) (nI_toInt (by omega)) (fun c_25 => ?_) (fun c_25 => ?_)
              ·
                refine r_aload_n X eX5_table_77 rfl ?_
                refine gf_X5_40 X eX5_table_78 (by omega) z0 ?_
                refine r_aload_n X eX5_table_81 rfl ?_
                refine gf_X5_10 X eX5_table_82 (by omega) z0 ?_
                refine r_iload_n X eX5_table_85 rfl ?_
                refine r_iload_n X eX5_table_86 rfl ?_
                refine cv_X5_169 X eX5_table_87 (c_X0_fillTo _ G b N w 37 (by omega) hct 1 (by omega) (by omega) lw P hp na ne (by omega) (by omega) (by omega)) (by decide) (by omega) hct.1 rfl (Nat.le_of_ble_eq_true rfl) (fun w26 hp26 => ?_)
                obtain ⟨⟨cs, hcs, hcse⟩, hqe, hct2, g26⟩ := hp26
                have z0_w26 := (g26 0 (by omega)).trans z0
                have hpo_w26 := (g26 1 (by omega)).trans hpo
                have hso_w26 := (g26 4 (by omega)).trans hso
                have hpdo_w26 := (g26 8 (by omega)).trans hpdo
                have hac_w26 := (g26 10 (by omega)).trans hac
                have him_w26 := (g26 69 (by omega)).trans him
                have hkf_w26 := (g26 76 (by omega)).trans hkf
                have m27_w26 : w26 37 = .inr (0, [.ref (b + 38), .ref (b + 60), .ref (b + 61), .ref (b + 65)]) := hct2.1
                have m28_w26 : w26 38 = aP G 7 (fun i => some (b + (37 + 3 * i + 2))) := hct2.2.1
                have m29_w26 : w26 60 = aI G 7 cs := hcs
                have fr_w26 : ∀ j, (77 ≤ j) → w26 j = w j := fun j hj => (g26 j (by omega)).trans (fr_w j hj)
                have hs2 := sysC_T hs hct2 (fun j hj => g26 j (by omega))
                have hdm := tb_dim lw P na ne
                obtain ⟨ke, hke⟩ : ∃ ke, ke = 37 + 3 * ne + 2 := ⟨_, rfl⟩
                rw [← hke] at hqe
                refine r_iload_n X eX5_table_90 rfl ?_
                refine r_if_ne (tgt := 110) X eX5_table_91 (by decide) (nI_toInt (by omega)) (fun c_30 => ?_) (fun c_30 => ?_)
                ·
                  rw [nP_pos (show 0 < nt / 10 by omega)]
                  refine r_aload_n X eX5_table_110 rfl ?_
                  refine gf_X5_40 X eX5_table_111 (by omega) z0_w26 ?_
                  refine gf_X5_175 X eX5_table_114 (by omega) m27_w26 ?_
                  refine r_iload_n X eX5_table_117 rfl ?_
                  refine r_aald (a := b + ke) X eX5_table_118 (by omega) m28_w26 (by omega) (by decide) (by rw [hke]) ?_
                  refine r_iconst X eX5_table_119 (nI 0) (by decide) ?_
                  refine r_iload X eX5_table_120 rfl ?_
                  refine r_iload X eX5_table_122 rfl ?_
                  refine cp_X5_84 X eX5_table_124 (p_greyAt _ G b N w26 ke (by omega) lw (tb lw P na ne).2 hqe (nt / 10 - 1) (nt % 10) (by omega) (by omega)) (by decide) (by omega) hqe.obj rfl (Nat.le_of_ble_eq_true rfl) ?_
                  exact ret _ _ _ _ _ eX5_table_127 (⟨by rw [aTable, if_pos ⟨c_1, by omega⟩, if_neg (by omega), tn_nI hna, tn_nI hne, tn_nI hnt, if_pos (by omega)], hs2, fr_w26⟩)
                ·
                  refine r_aload_n X eX5_table_94 rfl ?_
                  refine gf_X5_40 X eX5_table_95 (by omega) z0_w26 ?_
                  refine gf_X5_172 X eX5_table_98 (by omega) m27_w26 ?_
                  refine r_iload_n X eX5_table_101 rfl ?_
                  refine r_iald X eX5_table_102 (by omega) m29_w26 (by omega) (by decide) ?_
                  refine r_top (y := (tb lw P na ne).1) hcse ?_
                  refine r_sipush X eX5_table_103 ((10000 : Int32)) (by decide) ?_
                  refine r_iadd X eX5_table_106 (((tb lw P na ne).1) + ((10000 : Int32))) rfl ?_
                  refine r_goto (tgt := 127) X eX5_table_107 (by decide) ?_
                  exact ret _ _ _ _ _ eX5_table_127 (⟨by rw [aTable, if_pos ⟨c_1, by omega⟩, if_pos (by omega), tn_nI hna, tn_nI hne], hs2, fr_w26⟩)
              ·
                refine r_bipush X eX5_table_74 ((-6 : Int32)) (by decide) ?_
                exact ret _ _ _ _ _ eX5_table_76 (⟨by rw [aTable, if_pos ⟨c_1, by omega⟩, if_neg (by omega), tn_nI hna, tn_nI hne, tn_nI hnt, if_neg (by omega)], hs, fr_w⟩)
        ·
          refine r_bipush X eX5_table_25 ((-2 : Int32)) (by decide) ?_
          exact ret _ _ _ _ _ eX5_table_27 (⟨(if_neg (fun q => absurd q.2 (by omega))).symm, hs, fr_w⟩)
set_option maxHeartbeats 4000000 in
set_option maxRecDepth 100000 in
theorem c_X5_image (l : Launch) (G : Gs) (b N : Nat) (w : Wd) (hN : 77 ≤ N) (lw : Nat) (P : Pc) (n : Nat) (sg : Nat → Int32) (im : Nat → Nat × Pc) (kf : Nat → Int32) (hs : sysC G b w (lw, P, n, sg, im, kf)) (k : Int32) : CI l yX5_image cX5_image 2 (some .int) 1 G b N w [.ref (b + 0), .int k] (fun r w2 => r = (fImage lw P n sg im kf k).1 ∧ sysC G b w2 (fImage lw P n sg im kf k).2 ∧ ∀ j, (77 ≤ j) → w2 j = w j) := by
  obtain ⟨z0, hp, ⟨wy0, tt0, pl0, ce0, go0, hsm⟩, hpd, ⟨ac, hac⟩, hos, hct, him, hpi, hkf, hkb⟩ := id hs
  have hpo := hp.obj
  have hP := hp.ok
  obtain ⟨o1, o2, o3, o4⟩ := id hP
  have hlw := hp.lw
  have hso := hsm.1
  have hpdo := hpd.1
  have hn8 := hpd.2.2
  dsimp only at hp hpd hpi hkf hkb hpo hP o1 o2 o3 o4 hlw hpdo hn8
  refine CI_of (L0 := [some (.ref (b + 0)), some (.int k)]) (by decide) rfl (by simp [Value.category]) rfl (Nat.le_of_ble_eq_true rfl) rfl (fun κ X ret => ?_)
  have fr_w : ∀ j, (77 ≤ j) → w j = w j := fun _ _ => rfl
  refine r_iload_n X eX5_image_0 rfl ?_
  refine r_if_lt (tgt := 9) X eX5_image_1 (by decide) rfl (fun c_1 => ?_) (fun c_1 => ?_)
  ·
    refine r_bipush X eX5_image_9 ((-2 : Int32)) (by decide) ?_
    exact ret _ _ _ _ _ eX5_image_11 (by rw [show fImage lw P n sg im kf k = (-2, (lw, P, n, sg, im, kf)) from if_neg (by omega)]; exact ⟨rfl, hs, fr_w⟩)
  ·
    refine r_iload_n X eX5_image_4 rfl ?_
    refine r_iconst X eX5_image_5 (nI 2) (by decide) ?_
    refine r_icmp_lt (tgt := 12) X eX5_image_6 (by decide) rfl (nI_toInt (by omega)) (fun c_2 => ?_) (fun c_2 => ?_)
    ·
      obtain ⟨nk, hnk, rfl, hi_nk⟩ := i2n (x := k) (by omega)
      refine r_aload_n X eX5_image_12 rfl ?_
      refine gf_X5_44 X eX5_image_13 (by omega) z0 ?_
      refine r_iload_n X eX5_image_16 rfl ?_
      refine r_aald (a := b + (3 * nk + 70)) X eX5_image_17 (by omega) him (by omega) (by decide) rfl ?_
      refine r_aload_n X eX5_image_18 rfl ?_
      refine gf_X5_10 X eX5_image_19 (by omega) z0 ?_
      refine cv_X5_178 X eX5_image_22 (p_copyFrom _ G b N w (3 * nk + 70) (by omega) _ _ (hpi nk (by omega)) 1 (by omega) (by omega) lw P hp) (by decide) (by omega) (hpi nk (by omega)).obj rfl (Nat.le_of_ble_eq_true rfl) (fun w3 hp3 => ?_)
      obtain ⟨hq, g3⟩ := hp3
      have z0_w3 := (g3 0 (by omega)).trans z0
      have hpo_w3 := (g3 1 (by omega)).trans hpo
      have hso_w3 := (g3 4 (by omega)).trans hso
      have hpdo_w3 := (g3 8 (by omega)).trans hpdo
      have hac_w3 := (g3 10 (by omega)).trans hac
      have him_w3 := (g3 69 (by omega)).trans him
      have hkf_w3 := (g3 76 (by omega)).trans hkf
      have fr_w3 : ∀ j, (77 ≤ j) → w3 j = w j := fun j hj => (g3 j (by omega)).trans (fr_w j hj)
      have hs1 := sysC_I hs (by omega) hq (fun j hj => g3 j (by omega))
      refine r_aload_n X eX5_image_25 rfl ?_
      refine gf_X5_48 X eX5_image_26 (by omega) z0_w3 ?_
      refine r_iload_n X eX5_image_29 rfl ?_
      refine r_iconst X eX5_image_30 (nI 1) (by decide) ?_
      refine r_zast X eX5_image_31 (by omega) hkf_w3 (by omega) (by decide) (by decide) (fun w4 n4_w4 uu4 => ?_)
      have z0_w4 := (uu4 0 (by omega)).trans z0_w3
      have hpo_w4 := (uu4 1 (by omega)).trans hpo_w3
      have hso_w4 := (uu4 4 (by omega)).trans hso_w3
      have hpdo_w4 := (uu4 8 (by omega)).trans hpdo_w3
      have hac_w4 := (uu4 10 (by omega)).trans hac_w3
      have him_w4 := (uu4 69 (by omega)).trans him_w3
      have fr_w4 : ∀ j, (77 ≤ j) → w4 j = w j := fun j hj => (uu4 j (by omega)).trans (fr_w3 j hj)
      refine r_iconst X eX5_image_32 (nI 1) (by decide) ?_
      exact ret _ _ _ _ _ eX5_image_33 (by rw [show fImage lw P n sg im kf (nI nk) = (1, (lw, P, n, sg, fun i => if i = nk then (lw, P) else im i, upd kf nk 1)) from by rw [fImage, if_pos (by omega), tn_nI hnk]]; exact ⟨rfl, (sysC_K hs1 n4_w4 uu4), fr_w4⟩)
    ·
      refine r_bipush X eX5_image_9 ((-2 : Int32)) (by decide) ?_
      exact ret _ _ _ _ _ eX5_image_11 (by rw [show fImage lw P n sg im kf k = (-2, (lw, P, n, sg, im, kf)) from if_neg (by omega)]; exact ⟨rfl, hs, fr_w⟩)
set_option maxHeartbeats 4000000 in
set_option maxRecDepth 100000 in
theorem c_X5_restore (l : Launch) (G : Gs) (b N : Nat) (w : Wd) (hN : 77 ≤ N) (lw : Nat) (P : Pc) (n : Nat) (sg : Nat → Int32) (im : Nat → Nat × Pc) (kf : Nat → Int32) (hs : sysC G b w (lw, P, n, sg, im, kf)) (k : Int32) : CI l yX5_restore cX5_restore 2 (some .int) 1 G b N w [.ref (b + 0), .int k] (fun r w2 => r = (fRestore lw P n sg im kf k).1 ∧ sysC G b w2 (fRestore lw P n sg im kf k).2 ∧ ∀ j, (77 ≤ j) → w2 j = w j) := by
  obtain ⟨z0, hp, ⟨wy0, tt0, pl0, ce0, go0, hsm⟩, hpd, ⟨ac, hac⟩, hos, hct, him, hpi, hkf, hkb⟩ := id hs
  have hpo := hp.obj
  have hP := hp.ok
  obtain ⟨o1, o2, o3, o4⟩ := id hP
  have hlw := hp.lw
  have hso := hsm.1
  have hpdo := hpd.1
  have hn8 := hpd.2.2
  dsimp only at hp hpd hpi hkf hkb hpo hP o1 o2 o3 o4 hlw hpdo hn8
  refine CI_of (L0 := [some (.ref (b + 0)), some (.int k)]) (by decide) rfl (by simp [Value.category]) rfl (Nat.le_of_ble_eq_true rfl) rfl (fun κ X ret => ?_)
  have fr_w : ∀ j, (77 ≤ j) → w j = w j := fun _ _ => rfl
  refine r_iload_n X eX5_restore_0 rfl ?_
  refine r_if_lt (tgt := 9) X eX5_restore_1 (by decide) rfl (fun c_1 => ?_) (fun c_1 => ?_)
  ·
    refine r_bipush X eX5_restore_9 ((-2 : Int32)) (by decide) ?_
    exact ret _ _ _ _ _ eX5_restore_11 (by rw [show fRestore lw P n sg im kf k = (-2, (lw, P, n, sg, im, kf)) from if_neg (by omega)]; exact ⟨rfl, hs, fr_w⟩)
  ·
    refine r_iload_n X eX5_restore_4 rfl ?_
    refine r_iconst X eX5_restore_5 (nI 2) (by decide) ?_
    refine r_icmp_lt (tgt := 12) X eX5_restore_6 (by decide) rfl (nI_toInt (by omega)) (fun c_2 => ?_) (fun c_2 => ?_)
    ·
      obtain ⟨nk, hnk, rfl, hi_nk⟩ := i2n (x := k) (by omega)
      refine r_aload_n X eX5_restore_12 rfl ?_
      refine gf_X5_48 X eX5_restore_13 (by omega) z0 ?_
      refine r_iload_n X eX5_restore_16 rfl ?_
      refine r_zald X eX5_restore_17 (by omega) hkf (by omega) (by decide) ?_
      refine r_if_ne (tgt := 24) X eX5_restore_18 (by decide) rfl (fun c_3 => ?_) (fun c_3 => ?_)
      ·
        refine r_aload_n X eX5_restore_24 rfl ?_
        refine gf_X5_10 X eX5_restore_25 (by omega) z0 ?_
        refine r_aload_n X eX5_restore_28 rfl ?_
        refine gf_X5_44 X eX5_restore_29 (by omega) z0 ?_
        refine r_iload_n X eX5_restore_32 rfl ?_
        refine r_aald (a := b + (3 * nk + 70)) X eX5_restore_33 (by omega) him (by omega) (by decide) rfl ?_
        refine cv_X5_178 X eX5_restore_34 (p_copyFrom _ G b N w 1 (by omega) lw P hp (3 * nk + 70) (by omega) (by omega) _ _ (hpi nk (by omega))) (by decide) (by omega) hpo rfl (Nat.le_of_ble_eq_true rfl) (fun w4 hp4 => ?_)
        obtain ⟨hq, g4⟩ := hp4
        have z0_w4 := (g4 0 (by omega)).trans z0
        have hso_w4 := (g4 4 (by omega)).trans hso
        have hpdo_w4 := (g4 8 (by omega)).trans hpdo
        have hac_w4 := (g4 10 (by omega)).trans hac
        have him_w4 := (g4 69 (by omega)).trans him
        have hkf_w4 := (g4 76 (by omega)).trans hkf
        have m5_w4 : w4 1 = .inr (3, [.int (nI ((im nk).2.1)), .int (nI ((im nk).2.2.1)), .int (nI ((im nk).1)), .ref (b + 2), .ref (b + 3)]) := hq.obj
        have fr_w4 : ∀ j, (77 ≤ j) → w4 j = w j := fun j hj => (g4 j (by omega)).trans (fr_w j hj)
        have hs1 := sysC_P hs hq (fun j hj => g4 j (by omega))
        refine r_iconst X eX5_restore_37 (nI 1) (by decide) ?_
        exact ret _ _ _ _ _ eX5_restore_38 (by rw [show fRestore lw P n sg im kf (nI nk) = (1, ((im nk).1, (im nk).2, n, sg, im, kf)) from by rw [fRestore, if_pos (by omega), tn_nI hnk, if_neg (fun q => c_3 (congrArg Int32.toInt q))]]; exact ⟨rfl, hs1, fr_w4⟩)
      ·
        refine r_bipush X eX5_restore_21 ((-3 : Int32)) (by decide) ?_
        exact ret _ _ _ _ _ eX5_restore_23 (by rw [show fRestore lw P n sg im kf (nI nk) = (-3, (lw, P, n, sg, im, kf)) from by rw [fRestore, if_pos (by omega), tn_nI hnk, if_pos (Int32.toInt_inj.mp c_3)]]; exact ⟨rfl, hs, fr_w⟩)
    ·
      refine r_bipush X eX5_restore_9 ((-2 : Int32)) (by decide) ?_
      exact ret _ _ _ _ _ eX5_restore_11 (by rw [show fRestore lw P n sg im kf k = (-2, (lw, P, n, sg, im, kf)) from if_neg (by omega)]; exact ⟨rfl, hs, fr_w⟩)
set_option maxHeartbeats 4000000 in
set_option maxRecDepth 100000 in
theorem c_X5_imagesKept (l : Launch) (G : Gs) (b N : Nat) (w : Wd) (hN : 77 ≤ N) (lw : Nat) (P : Pc) (n : Nat) (sg : Nat → Int32) (im : Nat → Nat × Pc) (kf : Nat → Int32) (hs : sysC G b w (lw, P, n, sg, im, kf)) : CI l yX5_imagesKept cX5_imagesKept 3 (some .int) 0 G b N w [.ref (b + 0)] (fun r w2 => r = kpS kf ∧ w2 = w) := by
  obtain ⟨z0, hp, ⟨wy0, tt0, pl0, ce0, go0, hsm⟩, hpd, ⟨ac, hac⟩, hos, hct, him, hpi, hkf, hkb⟩ := id hs
  have hpo := hp.obj
  have hP := hp.ok
  obtain ⟨o1, o2, o3, o4⟩ := id hP
  have hlw := hp.lw
  have hso := hsm.1
  have hpdo := hpd.1
  have hn8 := hpd.2.2
  dsimp only at hp hpd hpi hkf hkb hpo hP o1 o2 o3 o4 hlw hpdo hn8
  refine CI_of (L0 := [some (.ref (b + 0)), none, none]) (by decide) rfl (by simp [Value.category]) rfl (Nat.le_of_ble_eq_true rfl) rfl (fun κ X ret => ?_)
  refine r_iconst X eX5_imagesKept_0 (nI 0) (by decide) ?_
  refine r_istore_n X eX5_imagesKept_1 (Nat.le_of_ble_eq_true rfl) (L2 := [some (.ref (b + 0)), some (.int (nI 0)), none]) rfl ?_
  refine r_iconst X eX5_imagesKept_2 (nI 0) (by decide) ?_
  refine r_istore_n X eX5_imagesKept_3 (Nat.le_of_ble_eq_true rfl) (L2 := [some (.ref (b + 0)), some (.int (nI 0)), some (.int (nI 0))]) rfl ?_
  refine r_iload_n X eX5_imagesKept_4 rfl ?_
  refine r_iconst X eX5_imagesKept_5 (nI 2) (by decide) ?_
  refine r_icmp_ge (tgt := 30) X eX5_imagesKept_6 (by decide) (nI_toInt (by omega)) (nI_toInt (by omega)) (fun c_1 => absurd c_1 (by omega)) (fun c_1 => ?_)
  refine r_aload_n X eX5_imagesKept_9 rfl ?_
  refine gf_X5_48 X eX5_imagesKept_10 (by omega) z0 ?_
  refine r_iload_n X eX5_imagesKept_13 rfl ?_
  refine r_zald X eX5_imagesKept_14 (by omega) hkf (by omega) (by decide) ?_
  refine r_if_eq (tgt := 24) X eX5_imagesKept_15 (by decide) rfl (fun c_2 => ?_) (fun c_2 => ?_)
  ·
    refine r_iinc X eX5_imagesKept_24 rfl (nI 1) (inc_nI _) (L2 := [some (.ref (b + 0)), some (.int (nI 0)), some (.int (nI 1))]) rfl ?_
    refine r_goto (tgt := 4) X eX5_imagesKept_27 (by decide) ?_
    refine r_iload_n X eX5_imagesKept_4 rfl ?_
    refine r_iconst X eX5_imagesKept_5 (nI 2) (by decide) ?_
    refine r_icmp_ge (tgt := 30) X eX5_imagesKept_6 (by decide) (nI_toInt (by omega)) (nI_toInt (by omega)) (fun c_3 => absurd c_3 (by omega)) (fun c_3 => ?_)
    refine r_aload_n X eX5_imagesKept_9 rfl ?_
    refine gf_X5_48 X eX5_imagesKept_10 (by omega) z0 ?_
    refine r_iload_n X eX5_imagesKept_13 rfl ?_
    refine r_zald X eX5_imagesKept_14 (by omega) hkf (by omega) (by decide) ?_
    refine r_if_eq (tgt := 24) X eX5_imagesKept_15 (by decide) rfl (fun c_4 => ?_) (fun c_4 => ?_)
    ·
      refine r_iinc X eX5_imagesKept_24 rfl (nI 2) (inc_nI _) (L2 := [some (.ref (b + 0)), some (.int (nI 0)), some (.int (nI 2))]) rfl ?_
      refine r_goto (tgt := 4) X eX5_imagesKept_27 (by decide) ?_
      refine r_iload_n X eX5_imagesKept_4 rfl ?_
      refine r_iconst X eX5_imagesKept_5 (nI 2) (by decide) ?_
      refine r_icmp_ge (tgt := 30) X eX5_imagesKept_6 (by decide) (nI_toInt (by omega)) (nI_toInt (by omega)) (fun c_5 => ?_) (fun c_5 => absurd c_5 (by omega))
      refine r_iload_n X eX5_imagesKept_30 rfl ?_
      exact ret _ _ _ _ _ eX5_imagesKept_31 (⟨by rw [kpS, if_pos (Int32.toInt_inj.mp c_2), if_pos (Int32.toInt_inj.mp c_4)]; decide, rfl⟩)
    ·
      refine r_iload_n X eX5_imagesKept_18 rfl ?_
      refine r_iconst X eX5_imagesKept_19 (nI 1) (by decide) ?_
      refine r_iload_n X eX5_imagesKept_20 rfl ?_
      refine r_ishl X eX5_imagesKept_21 ((nI 1) <<< ((nI 1) &&& 31)) rfl ?_
      refine r_ior X eX5_imagesKept_22 ((nI 0) ||| ((nI 1) <<< ((nI 1) &&& 31))) rfl ?_
      refine r_istore_n X eX5_imagesKept_23 (Nat.le_of_ble_eq_true rfl) (L2 := [some (.ref (b + 0)), some (.int ((nI 0) ||| ((nI 1) <<< ((nI 1) &&& 31)))), some (.int (nI 1))]) rfl ?_
      refine r_iinc X eX5_imagesKept_24 rfl (nI 2) (inc_nI _) (L2 := [some (.ref (b + 0)), some (.int ((nI 0) ||| ((nI 1) <<< ((nI 1) &&& 31)))), some (.int (nI 2))]) rfl ?_
      refine r_goto (tgt := 4) X eX5_imagesKept_27 (by decide) ?_
      refine r_iload_n X eX5_imagesKept_4 rfl ?_
      refine r_iconst X eX5_imagesKept_5 (nI 2) (by decide) ?_
      refine r_icmp_ge (tgt := 30) X eX5_imagesKept_6 (by decide) (nI_toInt (by omega)) (nI_toInt (by omega)) (fun c_6 => ?_) (fun c_6 => absurd c_6 (by omega))
      refine r_iload_n X eX5_imagesKept_30 rfl ?_
      exact ret _ _ _ _ _ eX5_imagesKept_31 (⟨by rw [kpS, if_pos (Int32.toInt_inj.mp c_2), if_neg (fun q => c_4 (congrArg Int32.toInt q))]; decide, rfl⟩)
  ·
    refine r_iload_n X eX5_imagesKept_18 rfl ?_
    refine r_iconst X eX5_imagesKept_19 (nI 1) (by decide) ?_
    refine r_iload_n X eX5_imagesKept_20 rfl ?_
    refine r_ishl X eX5_imagesKept_21 ((nI 1) <<< ((nI 0) &&& 31)) rfl ?_
    refine r_ior X eX5_imagesKept_22 ((nI 0) ||| ((nI 1) <<< ((nI 0) &&& 31))) rfl ?_
    refine r_istore_n X eX5_imagesKept_23 (Nat.le_of_ble_eq_true rfl) (L2 := [some (.ref (b + 0)), some (.int ((nI 0) ||| ((nI 1) <<< ((nI 0) &&& 31)))), some (.int (nI 0))]) rfl ?_
    refine r_iinc X eX5_imagesKept_24 rfl (nI 1) (inc_nI _) (L2 := [some (.ref (b + 0)), some (.int ((nI 0) ||| ((nI 1) <<< ((nI 0) &&& 31)))), some (.int (nI 1))]) rfl ?_
    refine r_goto (tgt := 4) X eX5_imagesKept_27 (by decide) ?_
    refine r_iload_n X eX5_imagesKept_4 rfl ?_
    refine r_iconst X eX5_imagesKept_5 (nI 2) (by decide) ?_
    refine r_icmp_ge (tgt := 30) X eX5_imagesKept_6 (by decide) (nI_toInt (by omega)) (nI_toInt (by omega)) (fun c_7 => absurd c_7 (by omega)) (fun c_7 => ?_)
    refine r_aload_n X eX5_imagesKept_9 rfl ?_
    refine gf_X5_48 X eX5_imagesKept_10 (by omega) z0 ?_
    refine r_iload_n X eX5_imagesKept_13 rfl ?_
    refine r_zald X eX5_imagesKept_14 (by omega) hkf (by omega) (by decide) ?_
    refine r_if_eq (tgt := 24) X eX5_imagesKept_15 (by decide) rfl (fun c_8 => ?_) (fun c_8 => ?_)
    ·
      refine r_iinc X eX5_imagesKept_24 rfl (nI 2) (inc_nI _) (L2 := [some (.ref (b + 0)), some (.int ((nI 0) ||| ((nI 1) <<< ((nI 0) &&& 31)))), some (.int (nI 2))]) rfl ?_
      refine r_goto (tgt := 4) X eX5_imagesKept_27 (by decide) ?_
      refine r_iload_n X eX5_imagesKept_4 rfl ?_
      refine r_iconst X eX5_imagesKept_5 (nI 2) (by decide) ?_
      refine r_icmp_ge (tgt := 30) X eX5_imagesKept_6 (by decide) (nI_toInt (by omega)) (nI_toInt (by omega)) (fun c_9 => ?_) (fun c_9 => absurd c_9 (by omega))
      refine r_iload_n X eX5_imagesKept_30 rfl ?_
      exact ret _ _ _ _ _ eX5_imagesKept_31 (⟨by rw [kpS, if_neg (fun q => c_2 (congrArg Int32.toInt q)), if_pos (Int32.toInt_inj.mp c_8)]; decide, rfl⟩)
    ·
      refine r_iload_n X eX5_imagesKept_18 rfl ?_
      refine r_iconst X eX5_imagesKept_19 (nI 1) (by decide) ?_
      refine r_iload_n X eX5_imagesKept_20 rfl ?_
      refine r_ishl X eX5_imagesKept_21 ((nI 1) <<< ((nI 1) &&& 31)) rfl ?_
      refine r_ior X eX5_imagesKept_22 (((nI 0) ||| ((nI 1) <<< ((nI 0) &&& 31))) ||| ((nI 1) <<< ((nI 1) &&& 31))) rfl ?_
      refine r_istore_n X eX5_imagesKept_23 (Nat.le_of_ble_eq_true rfl) (L2 := [some (.ref (b + 0)), some (.int (((nI 0) ||| ((nI 1) <<< ((nI 0) &&& 31))) ||| ((nI 1) <<< ((nI 1) &&& 31)))), some (.int (nI 1))]) rfl ?_
      refine r_iinc X eX5_imagesKept_24 rfl (nI 2) (inc_nI _) (L2 := [some (.ref (b + 0)), some (.int (((nI 0) ||| ((nI 1) <<< ((nI 0) &&& 31))) ||| ((nI 1) <<< ((nI 1) &&& 31)))), some (.int (nI 2))]) rfl ?_
      refine r_goto (tgt := 4) X eX5_imagesKept_27 (by decide) ?_
      refine r_iload_n X eX5_imagesKept_4 rfl ?_
      refine r_iconst X eX5_imagesKept_5 (nI 2) (by decide) ?_
      refine r_icmp_ge (tgt := 30) X eX5_imagesKept_6 (by decide) (nI_toInt (by omega)) (nI_toInt (by omega)) (fun c_10 => ?_) (fun c_10 => absurd c_10 (by omega))
      refine r_iload_n X eX5_imagesKept_30 rfl ?_
      exact ret _ _ _ _ _ eX5_imagesKept_31 (⟨by rw [kpS, if_neg (fun q => c_2 (congrArg Int32.toInt q)), if_neg (fun q => c_8 (congrArg Int32.toInt q))]; decide, rfl⟩)
set_option maxHeartbeats 4000000 in
set_option maxRecDepth 100000 in
theorem c_X5_count (l : Launch) (G : Gs) (b N : Nat) (w : Wd) (hN : 77 ≤ N) (lw : Nat) (P : Pc) (n : Nat) (sg : Nat → Int32) (im : Nat → Nat × Pc) (kf : Nat → Int32) (hs : sysC G b w (lw, P, n, sg, im, kf)) (what : Int32) : CI l yX5_count cX5_count 2 (some .int) 3 G b N w [.ref (b + 0), .int what] (fun r w2 => r = aCount lw P n kf what ∧ sysC G b w2 (lw, P, n, sg, im, kf) ∧ ∀ j, (77 ≤ j) → w2 j = w j) := by
  obtain ⟨z0, hp, ⟨wy0, tt0, pl0, ce0, go0, hsm⟩, hpd, ⟨ac, hac⟩, hos, hct, him, hpi, hkf, hkb⟩ := id hs
  have hpo := hp.obj
  have hP := hp.ok
  obtain ⟨o1, o2, o3, o4⟩ := id hP
  have hlw := hp.lw
  have hso := hsm.1
  have hpdo := hpd.1
  have hn8 := hpd.2.2
  dsimp only at hp hpd hpi hkf hkb hpo hP o1 o2 o3 o4 hlw hpdo hn8
  refine CI_of (L0 := [some (.ref (b + 0)), some (.int what)]) (by decide) rfl (by simp [Value.category]) rfl (Nat.le_of_ble_eq_true rfl) rfl (fun κ X ret => ?_)
  have fr_w : ∀ j, (77 ≤ j) → w j = w j := fun _ _ => rfl
  refine r_iload_n X eX5_count_0 rfl ?_
  by_cases s_1 : what.toInt = 0
  ·
    refine r_tabIn (tgt := 48) X eX5_count_1 0 s_1 (by decide) (by decide) rfl (by decide) ?_
    refine r_aload_n X eX5_count_48 rfl ?_
    refine gf_X5_10 X eX5_count_49 (by omega) z0 ?_
    refine gf_X5_56 X eX5_count_52 (by omega) hpo ?_
    exact ret _ _ _ _ _ eX5_count_55 (⟨by rw [aCount, if_pos (by omega)], hs, fr_w⟩)
  by_cases s_2 : what.toInt = 1
  ·
    refine r_tabIn (tgt := 56) X eX5_count_1 1 s_2 (by decide) (by decide) rfl (by decide) ?_
    refine r_aload_n X eX5_count_56 rfl ?_
    refine gf_X5_10 X eX5_count_57 (by omega) z0 ?_
    refine gf_X5_60 X eX5_count_60 (by omega) hpo ?_
    exact ret _ _ _ _ _ eX5_count_63 (⟨by rw [aCount, if_neg (by omega), if_pos (by omega)], hs, fr_w⟩)
  by_cases s_3 : what.toInt = 2
  ·
    refine r_tabIn (tgt := 64) X eX5_count_1 2 s_3 (by decide) (by decide) rfl (by decide) ?_
    refine r_aload_n X eX5_count_64 rfl ?_
    refine gf_X5_10 X eX5_count_65 (by omega) z0 ?_
    refine cp_X5_182 X eX5_count_68 (p_sum _ G b N w 1 (by omega) lw P hp) (by decide) (by omega) hpo rfl (Nat.le_of_ble_eq_true rfl) ?_
    exact ret _ _ _ _ _ eX5_count_71 (⟨by rw [aCount, if_neg (by omega), if_neg (by omega), if_pos (by omega)], hs, fr_w⟩)
  by_cases s_4 : what.toInt = 3
  ·
    refine r_tabIn (tgt := 72) X eX5_count_1 3 s_4 (by decide) (by decide) rfl (by decide) ?_
    refine r_aload_n X eX5_count_72 rfl ?_
    refine gf_X5_10 X eX5_count_73 (by omega) z0 ?_
    refine r_iconst X eX5_count_76 ((1 : Int32)) (by decide) ?_
    refine cp_X5_185 X eX5_count_77 (p_marked _ G b N w 1 (by omega) lw P hp 1) (by decide) (by omega) hpo rfl (Nat.le_of_ble_eq_true rfl) ?_
    exact ret _ _ _ _ _ eX5_count_80 (⟨by rw [aCount, if_neg (by omega), if_neg (by omega), if_neg (by omega), if_pos (by omega)], hs, fr_w⟩)
  by_cases s_5 : what.toInt = 4
  ·
    refine r_tabIn (tgt := 81) X eX5_count_1 4 s_5 (by decide) (by decide) rfl (by decide) ?_
    refine r_aload_n X eX5_count_81 rfl ?_
    refine gf_X5_10 X eX5_count_82 (by omega) z0 ?_
    refine r_iconst X eX5_count_85 ((2 : Int32)) (by decide) ?_
    refine cp_X5_185 X eX5_count_86 (p_marked _ G b N w 1 (by omega) lw P hp 2) (by decide) (by omega) hpo rfl (Nat.le_of_ble_eq_true rfl) ?_
    exact ret _ _ _ _ _ eX5_count_89 (⟨by rw [aCount, if_neg (by omega), if_neg (by omega), if_neg (by omega), if_neg (by omega), if_pos (by omega)], hs, fr_w⟩)
  by_cases s_6 : what.toInt = 5
  ·
    refine r_tabIn (tgt := 90) X eX5_count_1 5 s_6 (by decide) (by decide) rfl (by decide) ?_
    refine r_aload_n X eX5_count_90 rfl ?_
    refine gf_X5_10 X eX5_count_91 (by omega) z0 ?_
    refine gf_X5_81 X eX5_count_94 (by omega) hpo ?_
    exact ret _ _ _ _ _ eX5_count_97 (⟨by rw [aCount, if_neg (by omega), if_neg (by omega), if_neg (by omega), if_neg (by omega), if_neg (by omega), if_pos (by omega)], hs, fr_w⟩)
  by_cases s_7 : what.toInt = 6
  ·
    refine r_tabIn (tgt := 98) X eX5_count_1 6 s_7 (by decide) (by decide) rfl (by decide) ?_
    refine r_aload_n X eX5_count_98 rfl ?_
    refine gf_X5_26 X eX5_count_99 (by omega) z0 ?_
    refine gf_X5_188 X eX5_count_102 (by omega) hpdo ?_
    exact ret _ _ _ _ _ eX5_count_105 (⟨by rw [aCount, if_neg (by omega), if_neg (by omega), if_neg (by omega), if_neg (by omega), if_neg (by omega), if_neg (by omega), if_pos (by omega)], hs, fr_w⟩)
  by_cases s_8 : what.toInt = 7
  ·
    refine r_tabIn (tgt := 106) X eX5_count_1 7 s_8 (by decide) (by decide) rfl (by decide) ?_
    refine r_aload_n X eX5_count_106 rfl ?_
    refine cp_X5_191 X eX5_count_107 (c_X5_imagesKept _ G b N w hN lw P n sg im kf hs) (by decide) (by omega) z0 rfl (Nat.le_of_ble_eq_true rfl) ?_
    exact ret _ _ _ _ _ eX5_count_110 (⟨by rw [aCount, if_neg (by omega), if_neg (by omega), if_neg (by omega), if_neg (by omega), if_neg (by omega), if_neg (by omega), if_neg (by omega), if_pos (by omega)], hs, fr_w⟩)
  refine r_tabOut (tgt := 111) X eX5_count_1 (by omega) (by decide) ?_
  refine r_bipush X eX5_count_111 ((-2 : Int32)) (by decide) ?_
  exact ret _ _ _ _ _ eX5_count_113 (⟨by rw [aCount, if_neg (by omega), if_neg (by omega), if_neg (by omega), if_neg (by omega), if_neg (by omega), if_neg (by omega), if_neg (by omega), if_neg (by omega)], hs, fr_w⟩)
set_option maxHeartbeats 4000000 in
set_option maxRecDepth 100000 in
theorem c_X5_go (l : Launch) (G : Gs) (b N : Nat) (w : Wd) (hN : 77 ≤ N) (lw : Nat) (P : Pc) (n : Nat) (sg : Nat → Int32) (im : Nat → Nat × Pc) (kf : Nat → Int32) (hs : sysC G b w (lw, P, n, sg, im, kf)) (x y : Int32) : CI l yX5_go cX5_go 4 (some .int) 13 G b N w [.ref (b + 0), .int x, .int y] (fun r w2 => r = (fGo lw P n sg im kf x y).1 ∧ sysC G b w2 (fGo lw P n sg im kf x y).2 ∧ ∀ j, (77 ≤ j) → w2 j = w j) := by
  obtain ⟨z0, hp, ⟨wy0, tt0, pl0, ce0, go0, hsm⟩, hpd, ⟨ac, hac⟩, hos, hct, him, hpi, hkf, hkb⟩ := id hs
  have hpo := hp.obj
  have hP := hp.ok
  obtain ⟨o1, o2, o3, o4⟩ := id hP
  have hlw := hp.lw
  have hso := hsm.1
  have hpdo := hpd.1
  have hn8 := hpd.2.2
  dsimp only at hp hpd hpi hkf hkb hpo hP o1 o2 o3 o4 hlw hpdo hn8
  refine CI_of (L0 := [some (.ref (b + 0)), some (.int x), some (.int y), none]) (by decide) rfl (by simp [Value.category]) rfl (Nat.le_of_ble_eq_true rfl) rfl (fun κ X ret => ?_)
  have fr_w : ∀ j, (77 ≤ j) → w j = w j := fun _ _ => rfl
  refine r_aload_n X eX5_go_0 rfl ?_
  refine r_iload_n X eX5_go_1 rfl ?_
  refine r_iload_n X eX5_go_2 rfl ?_
  refine cp_X5_150 X eX5_go_3 (c_X5_canReach _ G b N w hN lw P n sg im kf hs x y) (by decide) (by omega) z0 rfl (Nat.le_of_ble_eq_true rfl) ?_
  refine r_ifne_b (tgt := 12) X eX5_go_6 (by decide) (fun c_1 => ?_) (fun c_1 => ?_)
  ·
    obtain ⟨na, hna, rfl, hi_na⟩ := i2n (x := x) (by omega)
    obtain ⟨ne, hne, rfl, hi_ne⟩ := i2n (x := y) (by omega)
    refine r_aload_n X eX5_go_12 rfl ?_
    refine gf_X5_33 X eX5_go_13 (by omega) z0 ?_
    refine r_aload_n X eX5_go_16 rfl ?_
    refine gf_X5_10 X eX5_go_17 (by omega) z0 ?_
    refine r_iload_n X eX5_go_20 rfl ?_
    refine r_iload_n X eX5_go_21 rfl ?_
    refine cv_X5_153 X eX5_go_22 (c_X1_findBest _ G b N w 10 (by omega) ac hac hos 1 (by omega) (by omega) lw P hp na ne (by omega) (by omega) (by omega)) (by decide) (by omega) hac rfl (Nat.le_of_ble_eq_true rfl) (fun w2 hp2 => ?_)
    obtain ⟨⟨ac0, hz0, hac2⟩, hos2, g2⟩ := hp2
    rw [show trS lw (na + ne) na ne [] 0 0 P ac0 = bsA lw P na ne from trS_ind (na + ne) na ne [] 0 0 P ac0 _ rfl hz0 rfl] at hac2
    have z0_w2 := (g2 0 (by omega)).trans z0
    have hpo_w2 := (g2 1 (by omega)).trans hpo
    have hso_w2 := (g2 4 (by omega)).trans hso
    have hpdo_w2 := (g2 8 (by omega)).trans hpdo
    have him_w2 := (g2 69 (by omega)).trans him
    have hkf_w2 := (g2 76 (by omega)).trans hkf
    have m3_w2 : w2 10 = .inr (1, [.int ((bsA lw P na ne).1), .int (nI (enc (bsA lw P na ne).2.1)), .int ((bsA lw P na ne).2.2.1), .int (nI ((bsA lw P na ne).2.2.2)), .ref (b + 11), .ref (b + 33)]) := hac2
    have fr_w2 : ∀ j, (77 ≤ j) → w2 j = w j := fun j hj => (g2 j (by omega)).trans (fr_w j hj)
    have hs2 := sysC_O hs hac2 hos2 (fun j hj => g2 j (by omega))
    have hord := (bs_ord (lw := lw) (P := P) (a := na) (e := ne)).2
    refine r_iconst X eX5_go_25 (nI 0) (by decide) ?_
    refine r_istore_n X eX5_go_26 (Nat.le_of_ble_eq_true rfl) (L2 := [some (.ref (b + 0)), some (.int (nI na)), some (.int (nI ne)), some (.int (nI 0))]) rfl ?_
    have lp4 : ∀ (fu : Nat) (i : Nat) (w4 : Wd), (i ≤ na + ne) → (sysC G b w4 (lw, runP lw P ((bsA lw P na ne).2.1.take i), n, sg, im, kf)) → (w4 0 = .inr (5, [.ref (b + 1), .ref (b + 4), .ref (b + 8), .ref (b + 10), .ref (b + 37), .ref (b + 69), .ref (b + 76)])) → (w4 10 = .inr (1, [.int ((bsA lw P na ne).1), .int (nI (enc (bsA lw P na ne).2.1)), .int ((bsA lw P na ne).2.2.1), .int (nI ((bsA lw P na ne).2.2.2)), .ref (b + 11), .ref (b + 33)])) → (∀ j, (77 ≤ j) → w4 j = w j) → na + ne - i < fu → V κ G b (N, 0, 0) w4 27 [some (.ref (b + 0)), some (.int (nI na)), some (.int (nI ne)), some (.int (nI i))] [] := by
      intro fu
      induction fu with
      | zero => intro i w4 hi hsw z0_w4 m3_w4 fr_w4 hm; exact absurd hm (Nat.not_lt_zero _)
      | succ fu ih4 =>
        intro i w4 hi hsw z0_w4 m3_w4 fr_w4 hm
        refine r_iload_n X eX5_go_27 rfl ?_
        refine r_iload_n X eX5_go_28 rfl ?_
        refine r_iload_n X eX5_go_29 rfl ?_
        refine r_iadd X eX5_go_30 (nI (na + ne)) (addN (by omega)) ?_
        refine r_icmp_ge (tgt := 73) X eX5_go_31 (by decide) (nI_toInt (by omega)) (nI_toInt (by omega)) (fun c_5 => ?_) (fun c_5 => ?_)
        ·
          refine r_aload_n X eX5_go_73 rfl ?_
          refine gf_X5_33 X eX5_go_74 (by omega) z0_w4 ?_
          refine gf_X5_157 X eX5_go_77 (by omega) m3_w4 ?_
          refine r_sipush X eX5_go_80 ((10000 : Int32)) (by decide) ?_
          refine r_iadd X eX5_go_83 (((bsA lw P na ne).1) + ((10000 : Int32))) rfl ?_
          exact ret _ _ _ _ _ eX5_go_84 (by rw [show fGo lw P n sg im kf (nI na) (nI ne) = ((bsA lw P na ne).1 + 10000, (lw, runP lw P (bsA lw P na ne).2.1, n, sg, im, kf)) from by rw [fGo, if_pos c_1, tn_nI hna, tn_nI hne]]; exact ⟨rfl, (by rw [List.take_of_length_le (by rw [hord.1]; omega)] at hsw; exact hsw), fr_w4⟩)
        ·
          refine r_aload_n X eX5_go_34 rfl ?_
          refine gf_X5_19 X eX5_go_35 (by omega) z0_w4 ?_
          refine r_aload_n X eX5_go_38 rfl ?_
          refine gf_X5_10 X eX5_go_39 (by omega) z0_w4 ?_
          refine r_aload_n X eX5_go_42 rfl ?_
          refine gf_X5_33 X eX5_go_43 (by omega) z0_w4 ?_
          refine gf_X5_163 X eX5_go_46 (by omega) m3_w4 ?_
          refine r_iload_n X eX5_go_49 rfl ?_
          refine r_ishr X eX5_go_50 ((nI (enc (bsA lw P na ne).2.1)) >>> ((nI i) &&& 31)) rfl ?_
          refine r_iconst X eX5_go_51 (nI 1) (by decide) ?_
          refine r_iand X eX5_go_52 (nI ((bsA lw P na ne).2.1.getD i 0)) (bit_of hord (by omega) (by omega)) ?_
          obtain ⟨_, hpL, ⟨wyL, ttL, plL, ceL, goL, hsmL⟩, _⟩ := id hsw
          have hbi := getD_lt (i := i) hord.2.1
          refine cv_X5_119 X eX5_go_53 (p_findLeast _ G b N w4 4 (by omega) _ _ _ _ _ hsmL 1 (by omega) (by omega) lw (runP lw P ((bsA lw P na ne).2.1.take i)) hpL ((bsA lw P na ne).2.1.getD i 0) hbi) (by decide) (by omega) hsmL.1 rfl (Nat.le_of_ble_eq_true rfl) (fun w6 hp6 => ?_)
          obtain ⟨pl1, ce1, go1, hsm1, hok1, g6⟩ := hp6
          have z0_w6 := (g6 0 (by omega)).trans z0_w4
          have m3_w6 := (g6 10 (by omega)).trans m3_w4
          have fr_w6 : ∀ j, (77 ≤ j) → w6 j = w j := fun j hj => (g6 j (by omega)).trans (fr_w4 j hj)
          have hsL1 := sysC_S hsw ⟨_, _, _, _, _, hsm1⟩ (fun j hj => g6 j (by omega))
          have hpL1 := hpL.fr (w2 := w6) (fun j h1 h2 => g6 j (by omega))
          refine r_aload_n X eX5_go_56 rfl ?_
          refine gf_X5_10 X eX5_go_57 (by omega) z0_w6 ?_
          refine r_aload_n X eX5_go_60 rfl ?_
          refine gf_X5_19 X eX5_go_61 (by omega) z0_w6 ?_
          refine cv_X5_137 X eX5_go_64 (p_takeOut _ G b N w6 1 (by omega) lw (runP lw P ((bsA lw P na ne).2.1.take i)) hpL1 4 ((bsA lw P na ne).2.1.getD i 0) (by omega) (by omega) hbi _ _ _ _ hsm1 hok1 (run_nb hord (by omega) (by omega) (by omega))) (by decide) (by omega) hpL1.obj rfl (Nat.le_of_ble_eq_true rfl) (fun w7 hp7 => ?_)
          obtain ⟨hqL, g7⟩ := hp7
          have z0_w7 := (g7 0 (by omega)).trans z0_w6
          have m3_w7 := (g7 10 (by omega)).trans m3_w6
          have fr_w7 : ∀ j, (77 ≤ j) → w7 j = w j := fun j hj => (g7 j (by omega)).trans (fr_w6 j hj)
          have hsL2 := sysC_P hsL1 hqL (fun j hj => g7 j (by omega))
          rw [← runP_st (by rw [hord.1]; omega)] at hsL2
          refine r_iinc X eX5_go_67 rfl (nI (i + 1)) (inc_nI _) (L2 := [some (.ref (b + 0)), some (.int (nI na)), some (.int (nI ne)), some (.int (nI (i + 1)))]) rfl ?_
          refine r_goto (tgt := 27) X eX5_go_70 (by decide) ?_
          exact ih4 (i + 1) w7 (by omega) hsL2 z0_w7 m3_w7 fr_w7 (by omega)
    exact lp4 _ 0 w2 (by omega) hs2 z0_w2 m3_w2 fr_w2 (Nat.lt_succ_self _)
  ·
    refine r_bipush X eX5_go_9 ((-2 : Int32)) (by decide) ?_
    exact ret _ _ _ _ _ eX5_go_11 (by rw [show fGo lw P n sg im kf x y = (-2, (lw, P, n, sg, im, kf)) from if_neg c_1]; exact ⟨rfl, hs, fr_w⟩)
