set_option maxHeartbeats 4000000 in
set_option maxRecDepth 100000 in
theorem c_X5_isSide (l : Launch) (G : Gs) (b N : Nat) (w : Wd) (x : Int32) : CI l yX5_isSide cX5_isSide 1 (some .boolean) 0 G b N w [.int x] (fun r w2 => r = bI (2 ≤ x.toInt ∧ x.toInt ≤ 8) ∧ w2 = w) := by
  refine CZ_of (L0 := [some (.int x)]) (by decide) rfl (by simp [Value.category]) rfl (Nat.le_of_ble_eq_true rfl) rfl (fun κ X ret => ?_)
  refine r_iload_n X eX5_isSide_0 rfl ?_
  refine r_iconst X eX5_isSide_1 (nI 2) (by decide) ?_
  refine r_icmp_lt (tgt := 15) X eX5_isSide_2 (by decide) rfl (nI_toInt (by omega)) (fun c_1 => ?_) (fun c_1 => ?_)
  ·
    refine r_iconst X eX5_isSide_15 (nI 0) (by decide) ?_
    exact ret _ _ _ _ _ eX5_isSide_16 (Or.inl rfl) (⟨bI_f (by omega), rfl⟩)
  ·
    refine r_iload_n X eX5_isSide_5 rfl ?_
    refine r_bipush X eX5_isSide_6 (nI 8) (by decide) ?_
    refine r_icmp_gt (tgt := 15) X eX5_isSide_8 (by decide) rfl (nI_toInt (by omega)) (fun c_2 => ?_) (fun c_2 => ?_)
    ·
      refine r_iconst X eX5_isSide_15 (nI 0) (by decide) ?_
      exact ret _ _ _ _ _ eX5_isSide_16 (Or.inl rfl) (⟨bI_f (by omega), rfl⟩)
    ·
      refine r_iconst X eX5_isSide_11 (nI 1) (by decide) ?_
      refine r_goto (tgt := 16) X eX5_isSide_12 (by decide) ?_
      exact ret _ _ _ _ _ eX5_isSide_16 (Or.inr rfl) (⟨bI_t (by omega), rfl⟩)
set_option maxHeartbeats 4000000 in
set_option maxRecDepth 100000 in
theorem c_X5_isBit (l : Launch) (G : Gs) (b N : Nat) (w : Wd) (x : Int32) : CI l yX5_isBit cX5_isBit 1 (some .boolean) 0 G b N w [.int x] (fun r w2 => r = bI (bitC x) ∧ w2 = w) := by
  refine CZ_of (L0 := [some (.int x)]) (by decide) rfl (by simp [Value.category]) rfl (Nat.le_of_ble_eq_true rfl) rfl (fun κ X ret => ?_)
  refine r_iload_n X eX5_isBit_0 rfl ?_
  refine r_if_eq (tgt := 9) X eX5_isBit_1 (by decide) rfl (fun c_1 => ?_) (fun c_1 => ?_)
  ·
    refine r_iconst X eX5_isBit_9 (nI 1) (by decide) ?_
    refine r_goto (tgt := 14) X eX5_isBit_10 (by decide) ?_
    exact ret _ _ _ _ _ eX5_isBit_14 (Or.inr rfl) (⟨bI_t (by omega), rfl⟩)
  ·
    refine r_iload_n X eX5_isBit_4 rfl ?_
    refine r_iconst X eX5_isBit_5 (nI 1) (by decide) ?_
    refine r_icmp_ne (tgt := 13) X eX5_isBit_6 (by decide) rfl (nI_toInt (by omega)) (fun c_2 => ?_) (fun c_2 => ?_)
    ·
      refine r_iconst X eX5_isBit_13 (nI 0) (by decide) ?_
      exact ret _ _ _ _ _ eX5_isBit_14 (Or.inl rfl) (⟨bI_f (by omega), rfl⟩)
    ·
      refine r_iconst X eX5_isBit_9 (nI 1) (by decide) ?_
      refine r_goto (tgt := 14) X eX5_isBit_10 (by decide) ?_
      exact ret _ _ _ _ _ eX5_isBit_14 (Or.inr rfl) (⟨bI_t (by omega), rfl⟩)
set_option maxHeartbeats 4000000 in
set_option maxRecDepth 100000 in
theorem c_X5_size (l : Launch) (G : Gs) (b N : Nat) (w : Wd) (hN : 77 ≤ N) (lw : Nat) (P : Pc) (n : Nat) (sg : Nat → Int32) (im : Nat → Nat × Pc) (kf : Nat → Int32) (hs : sysC G b w (lw, P, n, sg, im, kf)) (x y : Int32) : CI l yX5_size cX5_size 4 (some .int) 1 G b N w [.ref (b + 0), .int x, .int y] (fun r w2 => r = (fSize lw P n sg im kf x y).1 ∧ sysC G b w2 (fSize lw P n sg im kf x y).2 ∧ ∀ j, (77 ≤ j) → w2 j = w j) := by
  obtain ⟨z0, hp, ⟨wy0, tt0, pl0, ce0, go0, hsm⟩, hpd, ⟨ac, hac⟩, hos, hct, him, hpi, hkf, hkb⟩ := id hs
  have hpo := hp.obj
  have hP := hp.ok
  obtain ⟨o1, o2, o3, o4⟩ := id hP
  have hlw := hp.lw
  have hso := hsm.1
  have hpdo := hpd.1
  have hn8 := hpd.2.2
  dsimp only at hp hpd hpi hkf hkb hpo hP o1 o2 o3 o4 hlw hpdo hn8
  refine CI_of (L0 := [some (.ref (b + 0)), some (.int x), some (.int y), none]) (by decide) rfl (by simp [Value.category]) rfl (Nat.le_of_ble_eq_true rfl) rfl (fun κ X ret => ?_)
  have fr_w : ∀ j, (77 ≤ j) → w j = w j := fun _ _ => rfl
  refine r_iload_n X eX5_size_0 rfl ?_
  refine cp_X5_52 X eX5_size_1 (c_X5_isSide _ G b N w x) (by decide) rfl (Nat.le_of_ble_eq_true rfl) ?_
  refine r_ifeq_b (tgt := 14) X eX5_size_4 (by decide) (fun c_1 => ?_) (fun c_1 => ?_)
  ·
    refine r_bipush X eX5_size_14 ((-2 : Int32)) (by decide) ?_
    exact ret _ _ _ _ _ eX5_size_16 (by rw [show fSize lw P n sg im kf x y = (-2, (lw, P, n, sg, im, kf)) from if_neg (by omega)]; exact ⟨rfl, hs, fr_w⟩)
  ·
    refine r_iload_n X eX5_size_7 rfl ?_
    refine cp_X5_52 X eX5_size_8 (c_X5_isSide _ G b N w y) (by decide) rfl (Nat.le_of_ble_eq_true rfl) ?_
    refine r_ifne_b (tgt := 17) X eX5_size_11 (by decide) (fun c_2 => ?_) (fun c_2 => ?_)
    ·
      obtain ⟨nx, hnx, rfl, hi_nx⟩ := i2n (x := x) (by omega)
      obtain ⟨ny, hny, rfl, hi_ny⟩ := i2n (x := y) (by omega)
      refine r_bipush X eX5_size_17 (nI 10) (by decide) ?_
      refine r_aload_n X eX5_size_19 rfl ?_
      refine gf_X5_10 X eX5_size_20 (by omega) z0 ?_
      refine gf_X5_56 X eX5_size_23 (by omega) hpo ?_
      refine r_imul X eX5_size_26 (nI (10 * P.1)) (pk_mul _ _) ?_
      refine r_aload_n X eX5_size_27 rfl ?_
      refine gf_X5_10 X eX5_size_28 (by omega) z0 ?_
      refine gf_X5_60 X eX5_size_31 (by omega) hpo ?_
      refine r_iadd X eX5_size_34 (nI ((10 * P.1) + P.2.1)) (addN (by omega)) ?_
      refine r_istore_n X eX5_size_35 (Nat.le_of_ble_eq_true rfl) (L2 := [some (.ref (b + 0)), some (.int (nI nx)), some (.int (nI ny)), some (.int (nI ((10 * P.1) + P.2.1)))]) rfl ?_
      refine r_aload_n X eX5_size_36 rfl ?_
      refine gf_X5_10 X eX5_size_37 (by omega) z0 ?_
      refine r_iload_n X eX5_size_40 rfl ?_
      refine r_iload_n X eX5_size_41 rfl ?_
      refine cv_X5_63 X eX5_size_42 (p_blank _ G b N w 1 (by omega) lw P hp nx ny (by omega) (by omega) (by omega) (by omega)) (by decide) (by omega) hpo rfl (Nat.le_of_ble_eq_true rfl) (fun w3 hp3 => ?_)
      obtain ⟨hq, g3⟩ := hp3
      have z0_w3 := (g3 0 (by omega)).trans z0
      have hso_w3 := (g3 4 (by omega)).trans hso
      have hpdo_w3 := (g3 8 (by omega)).trans hpdo
      have hac_w3 := (g3 10 (by omega)).trans hac
      have him_w3 := (g3 69 (by omega)).trans him
      have hkf_w3 := (g3 76 (by omega)).trans hkf
      have m4_w3 : w3 1 = .inr (3, [.int (nI nx), .int (nI ny), .int (nI lw), .ref (b + 2), .ref (b + 3)]) := hq.obj
      have fr_w3 : ∀ j, (77 ≤ j) → w3 j = w j := fun j hj => (g3 j (by omega)).trans (fr_w j hj)
      have hs2 := sysC_P hs hq (fun j hj => g3 j (by omega))
      refine r_iload_n X eX5_size_45 rfl ?_
      exact ret _ _ _ _ _ eX5_size_46 (by rw [show fSize lw P n sg im kf (nI nx) (nI ny) = (nI (10 * P.1 + P.2.1), (lw, (nx, ny, fun _ _ => 0, fun _ _ => 0), n, sg, im, kf)) from by rw [fSize, if_pos (by omega), tn_nI hnx, tn_nI hny]]; exact ⟨rfl, hs2, fr_w3⟩)
    ·
      refine r_bipush X eX5_size_14 ((-2 : Int32)) (by decide) ?_
      exact ret _ _ _ _ _ eX5_size_16 (by rw [show fSize lw P n sg im kf x y = (-2, (lw, P, n, sg, im, kf)) from if_neg (by omega)]; exact ⟨rfl, hs, fr_w⟩)
set_option maxHeartbeats 4000000 in
set_option maxRecDepth 100000 in
theorem c_X5_grey (l : Launch) (G : Gs) (b N : Nat) (w : Wd) (hN : 77 ≤ N) (lw : Nat) (P : Pc) (n : Nat) (sg : Nat → Int32) (im : Nat → Nat × Pc) (kf : Nat → Int32) (hs : sysC G b w (lw, P, n, sg, im, kf)) (x y v : Int32) : CI l yX5_grey cX5_grey 4 (some .int) 2 G b N w [.ref (b + 0), .int x, .int y, .int v] (fun r w2 => r = (fGrey lw P n sg im kf x y v).1 ∧ sysC G b w2 (fGrey lw P n sg im kf x y v).2 ∧ ∀ j, (77 ≤ j) → w2 j = w j) := by
  obtain ⟨z0, hp, ⟨wy0, tt0, pl0, ce0, go0, hsm⟩, hpd, ⟨ac, hac⟩, hos, hct, him, hpi, hkf, hkb⟩ := id hs
  have hpo := hp.obj
  have hP := hp.ok
  obtain ⟨o1, o2, o3, o4⟩ := id hP
  have hlw := hp.lw
  have hso := hsm.1
  have hpdo := hpd.1
  have hn8 := hpd.2.2
  dsimp only at hp hpd hpi hkf hkb hpo hP o1 o2 o3 o4 hlw hpdo hn8
  refine CI_of (L0 := [some (.ref (b + 0)), some (.int x), some (.int y), some (.int v)]) (by decide) rfl (by simp [Value.category]) rfl (Nat.le_of_ble_eq_true rfl) rfl (fun κ X ret => ?_)
  have fr_w : ∀ j, (77 ≤ j) → w j = w j := fun _ _ => rfl
  refine r_aload_n X eX5_grey_0 rfl ?_
  refine gf_X5_10 X eX5_grey_1 (by omega) z0 ?_
  refine r_iload_n X eX5_grey_4 rfl ?_
  refine r_iload_n X eX5_grey_5 rfl ?_
  refine cp_X5_67 X eX5_grey_6 (p_hasDot _ G b N w 1 (by omega) lw P hp x y) (by decide) (by omega) hpo rfl (Nat.le_of_ble_eq_true rfl) ?_
  refine r_ifne_b (tgt := 14) X eX5_grey_9 (by decide) (fun c_1 => ?_) (fun c_1 => ?_)
  ·
    refine r_iload_n X eX5_grey_14 rfl ?_
    refine r_if_lt (tgt := 24) X eX5_grey_15 (by decide) rfl (fun c_2 => ?_) (fun c_2 => ?_)
    ·
      refine r_bipush X eX5_grey_24 ((-2 : Int32)) (by decide) ?_
      exact ret _ _ _ _ _ eX5_grey_26 (by rw [show fGrey lw P n sg im kf x y v = (-2, (lw, P, n, sg, im, kf)) from by rw [fGrey, if_pos c_1, if_neg (by omega)]]; exact ⟨rfl, hs, fr_w⟩)
    ·
      refine r_iload_n X eX5_grey_18 rfl ?_
      refine r_bipush X eX5_grey_19 (nI 9) (by decide) ?_
      refine r_icmp_le (tgt := 27) X eX5_grey_21 (by decide) rfl (nI_toInt (by omega)) (fun c_3 => ?_) (fun c_3 => ?_)
      ·
        obtain ⟨nx, hnx, rfl, hi_nx⟩ := i2n (x := x) (by omega)
        obtain ⟨ny, hny, rfl, hi_ny⟩ := i2n (x := y) (by omega)
        refine r_aload_n X eX5_grey_27 rfl ?_
        refine gf_X5_10 X eX5_grey_28 (by omega) z0 ?_
        refine r_iload_n X eX5_grey_31 rfl ?_
        refine r_iload_n X eX5_grey_32 rfl ?_
        refine r_iload_n X eX5_grey_33 rfl ?_
        refine cv_X5_71 X eX5_grey_34 (p_changeGrey _ G b N w 1 (by omega) lw P hp nx ny (by omega) (by omega) v) (by decide) (by omega) hpo rfl (Nat.le_of_ble_eq_true rfl) (fun r4 w4 hp4 => ?_)
        obtain ⟨ro, hq, g4⟩ := hp4
        have z0_w4 := (g4 0 (by omega)).trans z0
        have hso_w4 := (g4 4 (by omega)).trans hso
        have hpdo_w4 := (g4 8 (by omega)).trans hpdo
        have hac_w4 := (g4 10 (by omega)).trans hac
        have him_w4 := (g4 69 (by omega)).trans him
        have hkf_w4 := (g4 76 (by omega)).trans hkf
        have m5_w4 : w4 1 = .inr (3, [.int (nI P.1), .int (nI P.2.1), .int (nI lw), .ref (b + 2), .ref (b + 3)]) := hq.obj
        have fr_w4 : ∀ j, (77 ≤ j) → w4 j = w j := fun j hj => (g4 j (by omega)).trans (fr_w j hj)
        have hs2 := sysC_P hs hq (fun j hj => g4 j (by omega))
        exact ret _ _ _ _ _ eX5_grey_37 (by rw [show fGrey lw P n sg im kf (nI nx) (nI ny) v = (P.2.2.1 nx ny, (lw, (P.1, P.2.1, setG P.2.2.1 nx ny v, P.2.2.2), n, sg, im, kf)) from by rw [fGrey, if_pos c_1, if_pos (by omega), tn_nI hnx, tn_nI hny]]; exact ⟨ro, hs2, fr_w4⟩)
      ·
        refine r_bipush X eX5_grey_24 ((-2 : Int32)) (by decide) ?_
        exact ret _ _ _ _ _ eX5_grey_26 (by rw [show fGrey lw P n sg im kf x y v = (-2, (lw, P, n, sg, im, kf)) from by rw [fGrey, if_pos c_1, if_neg (by omega)]]; exact ⟨rfl, hs, fr_w⟩)
  ·
    refine r_iconst X eX5_grey_12 ((-1 : Int32)) (by decide) ?_
    exact ret _ _ _ _ _ eX5_grey_13 (by rw [show fGrey lw P n sg im kf x y v = (-1, (lw, P, n, sg, im, kf)) from if_neg c_1]; exact ⟨rfl, hs, fr_w⟩)
set_option maxHeartbeats 4000000 in
set_option maxRecDepth 100000 in
theorem c_X5_mark (l : Launch) (G : Gs) (b N : Nat) (w : Wd) (hN : 77 ≤ N) (lw : Nat) (P : Pc) (n : Nat) (sg : Nat → Int32) (im : Nat → Nat × Pc) (kf : Nat → Int32) (hs : sysC G b w (lw, P, n, sg, im, kf)) (x y v : Int32) : CI l yX5_mark cX5_mark 4 (some .int) 2 G b N w [.ref (b + 0), .int x, .int y, .int v] (fun r w2 => r = (fMark lw P n sg im kf x y v).1 ∧ sysC G b w2 (fMark lw P n sg im kf x y v).2 ∧ ∀ j, (77 ≤ j) → w2 j = w j) := by
  obtain ⟨z0, hp, ⟨wy0, tt0, pl0, ce0, go0, hsm⟩, hpd, ⟨ac, hac⟩, hos, hct, him, hpi, hkf, hkb⟩ := id hs
  have hpo := hp.obj
  have hP := hp.ok
  obtain ⟨o1, o2, o3, o4⟩ := id hP
  have hlw := hp.lw
  have hso := hsm.1
  have hpdo := hpd.1
  have hn8 := hpd.2.2
  dsimp only at hp hpd hpi hkf hkb hpo hP o1 o2 o3 o4 hlw hpdo hn8
  refine CI_of (L0 := [some (.ref (b + 0)), some (.int x), some (.int y), some (.int v)]) (by decide) rfl (by simp [Value.category]) rfl (Nat.le_of_ble_eq_true rfl) rfl (fun κ X ret => ?_)
  have fr_w : ∀ j, (77 ≤ j) → w j = w j := fun _ _ => rfl
  refine r_aload_n X eX5_mark_0 rfl ?_
  refine gf_X5_10 X eX5_mark_1 (by omega) z0 ?_
  refine r_iload_n X eX5_mark_4 rfl ?_
  refine r_iload_n X eX5_mark_5 rfl ?_
  refine cp_X5_67 X eX5_mark_6 (p_hasDot _ G b N w 1 (by omega) lw P hp x y) (by decide) (by omega) hpo rfl (Nat.le_of_ble_eq_true rfl) ?_
  refine r_ifne_b (tgt := 14) X eX5_mark_9 (by decide) (fun c_1 => ?_) (fun c_1 => ?_)
  ·
    refine r_iload_n X eX5_mark_14 rfl ?_
    refine r_if_lt (tgt := 23) X eX5_mark_15 (by decide) rfl (fun c_2 => ?_) (fun c_2 => ?_)
    ·
      refine r_bipush X eX5_mark_23 ((-2 : Int32)) (by decide) ?_
      exact ret _ _ _ _ _ eX5_mark_25 (by rw [show fMark lw P n sg im kf x y v = (-2, (lw, P, n, sg, im, kf)) from by rw [fMark, if_pos c_1, if_neg (by omega)]]; exact ⟨rfl, hs, fr_w⟩)
    ·
      refine r_iload_n X eX5_mark_18 rfl ?_
      refine r_iconst X eX5_mark_19 (nI 2) (by decide) ?_
      refine r_icmp_le (tgt := 26) X eX5_mark_20 (by decide) rfl (nI_toInt (by omega)) (fun c_3 => ?_) (fun c_3 => ?_)
      ·
        obtain ⟨nx, hnx, rfl, hi_nx⟩ := i2n (x := x) (by omega)
        obtain ⟨ny, hny, rfl, hi_ny⟩ := i2n (x := y) (by omega)
        refine r_aload_n X eX5_mark_26 rfl ?_
        refine gf_X5_10 X eX5_mark_27 (by omega) z0 ?_
        refine r_iload_n X eX5_mark_30 rfl ?_
        refine r_iload_n X eX5_mark_31 rfl ?_
        refine r_iload_n X eX5_mark_32 rfl ?_
        refine cv_X5_75 X eX5_mark_33 (p_changeMark _ G b N w 1 (by omega) lw P hp nx ny (by omega) (by omega) v) (by decide) (by omega) hpo rfl (Nat.le_of_ble_eq_true rfl) (fun r4 w4 hp4 => ?_)
        obtain ⟨ro, hq, g4⟩ := hp4
        have z0_w4 := (g4 0 (by omega)).trans z0
        have hso_w4 := (g4 4 (by omega)).trans hso
        have hpdo_w4 := (g4 8 (by omega)).trans hpdo
        have hac_w4 := (g4 10 (by omega)).trans hac
        have him_w4 := (g4 69 (by omega)).trans him
        have hkf_w4 := (g4 76 (by omega)).trans hkf
        have m5_w4 : w4 1 = .inr (3, [.int (nI P.1), .int (nI P.2.1), .int (nI lw), .ref (b + 2), .ref (b + 3)]) := hq.obj
        have fr_w4 : ∀ j, (77 ≤ j) → w4 j = w j := fun j hj => (g4 j (by omega)).trans (fr_w j hj)
        have hs2 := sysC_P hs hq (fun j hj => g4 j (by omega))
        exact ret _ _ _ _ _ eX5_mark_36 (by rw [show fMark lw P n sg im kf (nI nx) (nI ny) v = (P.2.2.2 nx ny, (lw, (P.1, P.2.1, P.2.2.1, setG P.2.2.2 nx ny v), n, sg, im, kf)) from by rw [fMark, if_pos c_1, if_pos (by omega), tn_nI hnx, tn_nI hny]]; exact ⟨ro, hs2, fr_w4⟩)
      ·
        refine r_bipush X eX5_mark_23 ((-2 : Int32)) (by decide) ?_
        exact ret _ _ _ _ _ eX5_mark_25 (by rw [show fMark lw P n sg im kf x y v = (-2, (lw, P, n, sg, im, kf)) from by rw [fMark, if_pos c_1, if_neg (by omega)]]; exact ⟨rfl, hs, fr_w⟩)
  ·
    refine r_iconst X eX5_mark_12 ((-1 : Int32)) (by decide) ?_
    exact ret _ _ _ _ _ eX5_mark_13 (by rw [show fMark lw P n sg im kf x y v = (-1, (lw, P, n, sg, im, kf)) from if_neg c_1]; exact ⟨rfl, hs, fr_w⟩)
set_option maxHeartbeats 4000000 in
set_option maxRecDepth 100000 in
theorem c_X5_rule (l : Launch) (G : Gs) (b N : Nat) (w : Wd) (hN : 77 ≤ N) (lw : Nat) (P : Pc) (n : Nat) (sg : Nat → Int32) (im : Nat → Nat × Pc) (kf : Nat → Int32) (hs : sysC G b w (lw, P, n, sg, im, kf)) (v : Int32) : CI l yX5_rule cX5_rule 3 (some .int) 1 G b N w [.ref (b + 0), .int v] (fun r w2 => r = (fRule lw P n sg im kf v).1 ∧ sysC G b w2 (fRule lw P n sg im kf v).2 ∧ ∀ j, (77 ≤ j) → w2 j = w j) := by
  obtain ⟨z0, hp, ⟨wy0, tt0, pl0, ce0, go0, hsm⟩, hpd, ⟨ac, hac⟩, hos, hct, him, hpi, hkf, hkb⟩ := id hs
  have hpo := hp.obj
  have hP := hp.ok
  obtain ⟨o1, o2, o3, o4⟩ := id hP
  have hlw := hp.lw
  have hso := hsm.1
  have hpdo := hpd.1
  have hn8 := hpd.2.2
  dsimp only at hp hpd hpi hkf hkb hpo hP o1 o2 o3 o4 hlw hpdo hn8
  refine CI_of (L0 := [some (.ref (b + 0)), some (.int v), none]) (by decide) rfl (by simp [Value.category]) rfl (Nat.le_of_ble_eq_true rfl) rfl (fun κ X ret => ?_)
  have fr_w : ∀ j, (77 ≤ j) → w j = w j := fun _ _ => rfl
  refine r_iload_n X eX5_rule_0 rfl ?_
  refine cp_X5_78 X eX5_rule_1 (c_X5_isBit _ G b N w v) (by decide) rfl (Nat.le_of_ble_eq_true rfl) ?_
  refine r_ifne_b (tgt := 10) X eX5_rule_4 (by decide) (fun c_1 => ?_) (fun c_1 => ?_)
  ·
    obtain ⟨nv, hnv, rfl, hi_nv⟩ := i2n (x := v) (by omega)
    refine r_aload_n X eX5_rule_10 rfl ?_
    refine gf_X5_10 X eX5_rule_11 (by omega) z0 ?_
    refine gf_X5_81 X eX5_rule_14 (by omega) hpo ?_
    refine r_istore_n X eX5_rule_17 (Nat.le_of_ble_eq_true rfl) (L2 := [some (.ref (b + 0)), some (.int (nI nv)), some (.int (nI lw))]) rfl ?_
    refine r_aload_n X eX5_rule_18 rfl ?_
    refine gf_X5_10 X eX5_rule_19 (by omega) z0 ?_
    refine r_iload_n X eX5_rule_22 rfl ?_
    refine pf_X5_81 X eX5_rule_23 (by omega) hpo (fun w2 n2_w2 uu2 => ?_)
    have z0_w2 := (uu2 0 (by omega)).trans z0
    have hso_w2 := (uu2 4 (by omega)).trans hso
    have hpdo_w2 := (uu2 8 (by omega)).trans hpdo
    have hac_w2 := (uu2 10 (by omega)).trans hac
    have him_w2 := (uu2 69 (by omega)).trans him
    have hkf_w2 := (uu2 76 (by omega)).trans hkf
    have fr_w2 : ∀ j, (77 ≤ j) → w2 j = w j := fun j hj => (uu2 j (by omega)).trans (fr_w j hj)
    refine r_iload_n X eX5_rule_26 rfl ?_
    exact ret _ _ _ _ _ eX5_rule_27 (by rw [show fRule lw P n sg im kf (nI nv) = (nI lw, (nv, P, n, sg, im, kf)) from by rw [fRule, if_pos c_1, tn_nI hnv]]; exact ⟨rfl, (sysC_P hs (isP_law hp n2_w2 uu2 (by omega)) (fun j hj => uu2 j (by omega))), fr_w2⟩)
  ·
    refine r_bipush X eX5_rule_7 ((-2 : Int32)) (by decide) ?_
    exact ret _ _ _ _ _ eX5_rule_9 (by rw [show fRule lw P n sg im kf v = (-2, (lw, P, n, sg, im, kf)) from if_neg c_1]; exact ⟨rfl, hs, fr_w⟩)
set_option maxHeartbeats 4000000 in
set_option maxRecDepth 100000 in
theorem c_X5_dot (l : Launch) (G : Gs) (b N : Nat) (w : Wd) (hN : 77 ≤ N) (lw : Nat) (P : Pc) (n : Nat) (sg : Nat → Int32) (im : Nat → Nat × Pc) (kf : Nat → Int32) (hs : sysC G b w (lw, P, n, sg, im, kf)) (x y what : Int32) : CI l yX5_dot cX5_dot 4 (some .int) 4 G b N w [.ref (b + 0), .int x, .int y, .int what] (fun r w2 => r = aDot P x y what ∧ sysC G b w2 (lw, P, n, sg, im, kf) ∧ ∀ j, (77 ≤ j) → w2 j = w j) := by
  obtain ⟨z0, hp, ⟨wy0, tt0, pl0, ce0, go0, hsm⟩, hpd, ⟨ac, hac⟩, hos, hct, him, hpi, hkf, hkb⟩ := id hs
  have hpo := hp.obj
  have hP := hp.ok
  obtain ⟨o1, o2, o3, o4⟩ := id hP
  have hlw := hp.lw
  have hso := hsm.1
  have hpdo := hpd.1
  have hn8 := hpd.2.2
  dsimp only at hp hpd hpi hkf hkb hpo hP o1 o2 o3 o4 hlw hpdo hn8
  refine CI_of (L0 := [some (.ref (b + 0)), some (.int x), some (.int y), some (.int what)]) (by decide) rfl (by simp [Value.category]) rfl (Nat.le_of_ble_eq_true rfl) rfl (fun κ X ret => ?_)
  have fr_w : ∀ j, (77 ≤ j) → w j = w j := fun _ _ => rfl
  refine r_aload_n X eX5_dot_0 rfl ?_
  refine gf_X5_10 X eX5_dot_1 (by omega) z0 ?_
  refine r_iload_n X eX5_dot_4 rfl ?_
  refine r_iload_n X eX5_dot_5 rfl ?_
  refine cp_X5_67 X eX5_dot_6 (p_hasDot _ G b N w 1 (by omega) lw P hp x y) (by decide) (by omega) hpo rfl (Nat.le_of_ble_eq_true rfl) ?_
  refine r_ifne_b (tgt := 14) X eX5_dot_9 (by decide) (fun c_1 => ?_) (fun c_1 => ?_)
  ·
    obtain ⟨nx, hnx, rfl, hi_nx⟩ := i2n (x := x) (by omega)
    obtain ⟨ny, hny, rfl, hi_ny⟩ := i2n (x := y) (by omega)
    refine r_iload_n X eX5_dot_14 rfl ?_
    by_cases s_2 : what.toInt = 0
    ·
      refine r_tabIn (tgt := 44) X eX5_dot_15 0 s_2 (by decide) (by decide) rfl (by decide) ?_
      refine r_aload_n X eX5_dot_44 rfl ?_
      refine gf_X5_10 X eX5_dot_45 (by omega) z0 ?_
      refine r_iconst X eX5_dot_48 (nI 0) (by decide) ?_
      refine r_iload_n X eX5_dot_49 rfl ?_
      refine r_iload_n X eX5_dot_50 rfl ?_
      refine cp_X5_84 X eX5_dot_51 (p_greyAt _ G b N w 1 (by omega) lw P hp nx ny (by omega) (by omega)) (by decide) (by omega) hpo rfl (Nat.le_of_ble_eq_true rfl) ?_
      exact ret _ _ _ _ _ eX5_dot_54 (⟨by rw [aDot, if_pos c_1, if_pos (by omega), tn_nI hnx, tn_nI hny], hs, fr_w⟩)
    by_cases s_3 : what.toInt = 1
    ·
      refine r_tabIn (tgt := 55) X eX5_dot_15 1 s_3 (by decide) (by decide) rfl (by decide) ?_
      refine r_aload_n X eX5_dot_55 rfl ?_
      refine gf_X5_10 X eX5_dot_56 (by omega) z0 ?_
      refine r_iconst X eX5_dot_59 (nI 0) (by decide) ?_
      refine r_iload_n X eX5_dot_60 rfl ?_
      refine r_iload_n X eX5_dot_61 rfl ?_
      refine cp_X5_87 X eX5_dot_62 (p_markAt _ G b N w 1 (by omega) lw P hp nx ny (by omega) (by omega)) (by decide) (by omega) hpo rfl (Nat.le_of_ble_eq_true rfl) ?_
      exact ret _ _ _ _ _ eX5_dot_65 (⟨by rw [aDot, if_pos c_1, if_neg (by omega), if_pos (by omega), tn_nI hnx, tn_nI hny], hs, fr_w⟩)
    by_cases s_4 : what.toInt = 2
    ·
      refine r_tabIn (tgt := 66) X eX5_dot_15 2 s_4 (by decide) (by decide) rfl (by decide) ?_
      refine r_aload_n X eX5_dot_66 rfl ?_
      refine gf_X5_10 X eX5_dot_67 (by omega) z0 ?_
      refine r_iload_n X eX5_dot_70 rfl ?_
      refine r_iload_n X eX5_dot_71 rfl ?_
      refine cp_X5_90 X eX5_dot_72 (p_edge _ G b N w 1 (by omega) lw P hp nx ny (by omega) (by omega)) (by decide) (by omega) hpo rfl (Nat.le_of_ble_eq_true rfl) ?_
      exact ret _ _ _ _ _ eX5_dot_75 (⟨by rw [aDot, if_pos c_1, if_neg (by omega), if_neg (by omega), if_pos (by omega), tn_nI hnx, tn_nI hny], hs, fr_w⟩)
    by_cases s_5 : what.toInt = 3
    ·
      refine r_tabIn (tgt := 76) X eX5_dot_15 3 s_5 (by decide) (by decide) rfl (by decide) ?_
      refine r_aload_n X eX5_dot_76 rfl ?_
      refine gf_X5_10 X eX5_dot_77 (by omega) z0 ?_
      refine r_iload_n X eX5_dot_80 rfl ?_
      refine r_iload_n X eX5_dot_81 rfl ?_
      refine cp_X5_94 X eX5_dot_82 (p_weight _ G b N w 1 (by omega) lw P hp nx ny (by omega) (by omega)) (by decide) (by omega) hpo rfl (Nat.le_of_ble_eq_true rfl) ?_
      refine r_sipush X eX5_dot_85 ((1000 : Int32)) (by decide) ?_
      refine r_iadd X eX5_dot_88 ((wgS P nx ny) + ((1000 : Int32))) rfl ?_
      exact ret _ _ _ _ _ eX5_dot_89 (⟨by rw [aDot, if_pos c_1, if_neg (by omega), if_neg (by omega), if_neg (by omega), if_pos (by omega), tn_nI hnx, tn_nI hny], hs, fr_w⟩)
    refine r_tabOut (tgt := 90) X eX5_dot_15 (by omega) (by decide) ?_
    refine r_bipush X eX5_dot_90 ((-2 : Int32)) (by decide) ?_
    exact ret _ _ _ _ _ eX5_dot_92 (⟨by rw [aDot, if_pos c_1, if_neg (by omega), if_neg (by omega), if_neg (by omega), if_neg (by omega)], hs, fr_w⟩)
  ·
    refine r_iconst X eX5_dot_12 ((-1 : Int32)) (by decide) ?_
    exact ret _ _ _ _ _ eX5_dot_13 (⟨(if_neg c_1).symm, hs, fr_w⟩)
set_option maxHeartbeats 4000000 in
set_option maxRecDepth 100000 in
theorem c_X5_say (l : Launch) (G : Gs) (b N : Nat) (w : Wd) (hN : 77 ≤ N) (lw : Nat) (P : Pc) (n : Nat) (sg : Nat → Int32) (im : Nat → Nat × Pc) (kf : Nat → Int32) (hs : sysC G b w (lw, P, n, sg, im, kf)) (x : Int32) : CI l yX5_say cX5_say 2 (some .int) 1 G b N w [.ref (b + 0), .int x] (fun r w2 => r = (fSay lw P n sg im kf x).1 ∧ sysC G b w2 (fSay lw P n sg im kf x).2 ∧ ∀ j, (77 ≤ j) → w2 j = w j) := by
  obtain ⟨z0, hp, ⟨wy0, tt0, pl0, ce0, go0, hsm⟩, hpd, ⟨ac, hac⟩, hos, hct, him, hpi, hkf, hkb⟩ := id hs
  have hpo := hp.obj
  have hP := hp.ok
  obtain ⟨o1, o2, o3, o4⟩ := id hP
  have hlw := hp.lw
  have hso := hsm.1
  have hpdo := hpd.1
  have hn8 := hpd.2.2
  dsimp only at hp hpd hpi hkf hkb hpo hP o1 o2 o3 o4 hlw hpdo hn8
  refine CI_of (L0 := [some (.ref (b + 0)), some (.int x)]) (by decide) rfl (by simp [Value.category]) rfl (Nat.le_of_ble_eq_true rfl) rfl (fun κ X ret => ?_)
  have fr_w : ∀ j, (77 ≤ j) → w j = w j := fun _ _ => rfl
  refine r_iload_n X eX5_say_0 rfl ?_
  refine r_bipush X eX5_say_1 (nI 33) (by decide) ?_
  refine r_icmp_lt (tgt := 12) X eX5_say_3 (by decide) rfl (nI_toInt (by omega)) (fun c_1 => ?_) (fun c_1 => ?_)
  ·
    refine r_bipush X eX5_say_12 ((-2 : Int32)) (by decide) ?_
    exact ret _ _ _ _ _ eX5_say_14 (by rw [show fSay lw P n sg im kf x = (-2, (lw, P, n, sg, im, kf)) from if_neg (by omega)]; exact ⟨rfl, hs, fr_w⟩)
  ·
    refine r_iload_n X eX5_say_6 rfl ?_
    refine r_bipush X eX5_say_7 (nI 126) (by decide) ?_
    refine r_icmp_le (tgt := 15) X eX5_say_9 (by decide) rfl (nI_toInt (by omega)) (fun c_2 => ?_) (fun c_2 => ?_)
    ·
      refine r_aload_n X eX5_say_15 rfl ?_
      refine gf_X5_26 X eX5_say_16 (by omega) z0 ?_
      refine cp_X5_97 X eX5_say_19 (c_X2_isFull _ G b N w 8 (by omega) n sg hpd) (by decide) (by omega) hpdo rfl (Nat.le_of_ble_eq_true rfl) ?_
      refine r_ifeq_b (tgt := 28) X eX5_say_22 (by decide) (fun c_3 => ?_) (fun c_3 => ?_)
      ·
        refine r_aload_n X eX5_say_28 rfl ?_
        refine gf_X5_26 X eX5_say_29 (by omega) z0 ?_
        refine r_iload_n X eX5_say_32 rfl ?_
        refine cv_X5_101 X eX5_say_33 (c_X2_append _ G b N w 8 (by omega) n sg hpd x (by omega)) (by decide) (by omega) hpdo rfl (Nat.le_of_ble_eq_true rfl) (fun r4 w4 hp4 => ?_)
        obtain ⟨ro, hq, g4⟩ := hp4
        have z0_w4 := (g4 0 (by omega)).trans z0
        have hpo_w4 := (g4 1 (by omega)).trans hpo
        have hso_w4 := (g4 4 (by omega)).trans hso
        have hac_w4 := (g4 10 (by omega)).trans hac
        have him_w4 := (g4 69 (by omega)).trans him
        have hkf_w4 := (g4 76 (by omega)).trans hkf
        have m5_w4 : w4 8 = .inr (2, [.int (nI (n + 1)), .ref (b + 9)]) := hq.1
        have fr_w4 : ∀ j, (77 ≤ j) → w4 j = w j := fun j hj => (g4 j (by omega)).trans (fr_w j hj)
        have hs2 := sysC_D hs hq (fun j hj => g4 j (by omega))
        exact ret _ _ _ _ _ eX5_say_36 (by rw [show fSay lw P n sg im kf x = (nI (n + 1), (lw, P, n + 1, upd sg n x, im, kf)) from by rw [fSay, if_pos (by omega), if_pos (by omega)]]; exact ⟨ro, hs2, fr_w4⟩)
      ·
        refine r_bipush X eX5_say_25 ((-4 : Int32)) (by decide) ?_
        exact ret _ _ _ _ _ eX5_say_27 (by rw [show fSay lw P n sg im kf x = (-4, (lw, P, n, sg, im, kf)) from by rw [fSay, if_pos (by omega), if_neg (by omega)]]; exact ⟨rfl, hs, fr_w⟩)
    ·
      refine r_bipush X eX5_say_12 ((-2 : Int32)) (by decide) ?_
      exact ret _ _ _ _ _ eX5_say_14 (by rw [show fSay lw P n sg im kf x = (-2, (lw, P, n, sg, im, kf)) from if_neg (by omega)]; exact ⟨rfl, hs, fr_w⟩)
set_option maxHeartbeats 4000000 in
set_option maxRecDepth 100000 in
theorem c_X5_wipe (l : Launch) (G : Gs) (b N : Nat) (w : Wd) (hN : 77 ≤ N) (lw : Nat) (P : Pc) (n : Nat) (sg : Nat → Int32) (im : Nat → Nat × Pc) (kf : Nat → Int32) (hs : sysC G b w (lw, P, n, sg, im, kf)) : CI l yX5_wipe cX5_wipe 1 (some .int) 1 G b N w [.ref (b + 0)] (fun r w2 => r = (fWipe lw P n sg im kf).1 ∧ sysC G b w2 (fWipe lw P n sg im kf).2 ∧ ∀ j, (77 ≤ j) → w2 j = w j) := by
  obtain ⟨z0, hp, ⟨wy0, tt0, pl0, ce0, go0, hsm⟩, hpd, ⟨ac, hac⟩, hos, hct, him, hpi, hkf, hkb⟩ := id hs
  have hpo := hp.obj
  have hP := hp.ok
  obtain ⟨o1, o2, o3, o4⟩ := id hP
  have hlw := hp.lw
  have hso := hsm.1
  have hpdo := hpd.1
  have hn8 := hpd.2.2
  dsimp only at hp hpd hpi hkf hkb hpo hP o1 o2 o3 o4 hlw hpdo hn8
  refine CI_of (L0 := [some (.ref (b + 0))]) (by decide) rfl (by simp [Value.category]) rfl (Nat.le_of_ble_eq_true rfl) rfl (fun κ X ret => ?_)
  have fr_w : ∀ j, (77 ≤ j) → w j = w j := fun _ _ => rfl
  refine r_aload_n X eX5_wipe_0 rfl ?_
  refine gf_X5_26 X eX5_wipe_1 (by omega) z0 ?_
  refine cv_X5_105 X eX5_wipe_4 (c_X2_clear _ G b N w 8 (by omega) n sg hpd) (by decide) (by omega) hpdo rfl (Nat.le_of_ble_eq_true rfl) (fun r1 w1 hp1 => ?_)
  obtain ⟨ro, hq, g1⟩ := hp1
  have z0_w1 := (g1 0 (by omega)).trans z0
  have hpo_w1 := (g1 1 (by omega)).trans hpo
  have hso_w1 := (g1 4 (by omega)).trans hso
  have hac_w1 := (g1 10 (by omega)).trans hac
  have him_w1 := (g1 69 (by omega)).trans him
  have hkf_w1 := (g1 76 (by omega)).trans hkf
  have m2_w1 : w1 8 = .inr (2, [.int (nI 0), .ref (b + 9)]) := hq.1
  have fr_w1 : ∀ j, (77 ≤ j) → w1 j = w j := fun j hj => (g1 j (by omega)).trans (fr_w j hj)
  have hs2 := sysC_D hs hq (fun j hj => g1 j (by omega))
  exact ret _ _ _ _ _ eX5_wipe_7 (⟨ro, hs2, fr_w1⟩)
set_option maxHeartbeats 4000000 in
set_option maxRecDepth 100000 in
theorem c_X5_fault (l : Launch) (G : Gs) (b N : Nat) (w : Wd) (hN : 77 ≤ N) (lw : Nat) (P : Pc) (n : Nat) (sg : Nat → Int32) (im : Nat → Nat × Pc) (kf : Nat → Int32) (hs : sysC G b w (lw, P, n, sg, im, kf)) (how : Int32) : CI l yX5_fault cX5_fault 2 (some .int) 3 G b N w [.ref (b + 0), .int how] (fun r w2 => r = aFault P n sg how ∧ sysC G b w2 (lw, P, n, sg, im, kf) ∧ ∀ j, (77 ≤ j) → w2 j = w j) := by
  obtain ⟨z0, hp, ⟨wy0, tt0, pl0, ce0, go0, hsm⟩, hpd, ⟨ac, hac⟩, hos, hct, him, hpi, hkf, hkb⟩ := id hs
  have hpo := hp.obj
  have hP := hp.ok
  obtain ⟨o1, o2, o3, o4⟩ := id hP
  have hlw := hp.lw
  have hso := hsm.1
  have hpdo := hpd.1
  have hn8 := hpd.2.2
  dsimp only at hp hpd hpi hkf hkb hpo hP o1 o2 o3 o4 hlw hpdo hn8
  refine CI_of (L0 := [some (.ref (b + 0)), some (.int how)]) (by decide) rfl (by simp [Value.category]) rfl (Nat.le_of_ble_eq_true rfl) rfl (fun κ X ret => ?_)
  have fr_w : ∀ j, (77 ≤ j) → w j = w j := fun _ _ => rfl
  refine r_iload_n X eX5_fault_0 rfl ?_
  refine cp_X5_78 X eX5_fault_1 (c_X5_isBit _ G b N w how) (by decide) rfl (Nat.le_of_ble_eq_true rfl) ?_
  refine r_ifne_b (tgt := 10) X eX5_fault_4 (by decide) (fun c_1 => ?_) (fun c_1 => ?_)
  ·
    obtain ⟨nh, hnh, rfl, hi_nh⟩ := i2n (x := how) (by omega)
    refine r_aload_n X eX5_fault_10 rfl ?_
    refine gf_X5_26 X eX5_fault_11 (by omega) z0 ?_
    refine r_iload_n X eX5_fault_14 rfl ?_
    refine r_aload_n X eX5_fault_15 rfl ?_
    refine gf_X5_10 X eX5_fault_16 (by omega) z0 ?_
    refine gf_X5_56 X eX5_fault_19 (by omega) hpo ?_
    refine r_aload_n X eX5_fault_22 rfl ?_
    refine gf_X5_10 X eX5_fault_23 (by omega) z0 ?_
    refine gf_X5_60 X eX5_fault_26 (by omega) hpo ?_
    refine cp_X5_109 X eX5_fault_29 (c_X2_firstFault _ G b N w 8 (by omega) n sg hpd nh P.1 P.2.1 (by omega) o1 o2 o3 o4) (by decide) (by omega) hpdo rfl (Nat.le_of_ble_eq_true rfl) ?_
    exact ret _ _ _ _ _ eX5_fault_32 (⟨by rw [aFault, if_pos c_1, tn_nI hnh], hs, fr_w⟩)
  ·
    refine r_bipush X eX5_fault_7 ((-2 : Int32)) (by decide) ?_
    exact ret _ _ _ _ _ eX5_fault_9 (⟨(if_neg c_1).symm, hs, fr_w⟩)
set_option maxHeartbeats 4000000 in
set_option maxRecDepth 100000 in
theorem c_X5_lay (l : Launch) (G : Gs) (b N : Nat) (w : Wd) (hN : 77 ≤ N) (lw : Nat) (P : Pc) (n : Nat) (sg : Nat → Int32) (im : Nat → Nat × Pc) (kf : Nat → Int32) (hs : sysC G b w (lw, P, n, sg, im, kf)) (how : Int32) : CI l yX5_lay cX5_lay 3 (some .int) 3 G b N w [.ref (b + 0), .int how] (fun r w2 => r = (fLay lw P n sg im kf how).1 ∧ sysC G b w2 (fLay lw P n sg im kf how).2 ∧ ∀ j, (77 ≤ j) → w2 j = w j) := by
  obtain ⟨z0, hp, ⟨wy0, tt0, pl0, ce0, go0, hsm⟩, hpd, ⟨ac, hac⟩, hos, hct, him, hpi, hkf, hkb⟩ := id hs
  have hpo := hp.obj
  have hP := hp.ok
  obtain ⟨o1, o2, o3, o4⟩ := id hP
  have hlw := hp.lw
  have hso := hsm.1
  have hpdo := hpd.1
  have hn8 := hpd.2.2
  dsimp only at hp hpd hpi hkf hkb hpo hP o1 o2 o3 o4 hlw hpdo hn8
  refine CI_of (L0 := [some (.ref (b + 0)), some (.int how), none]) (by decide) rfl (by simp [Value.category]) rfl (Nat.le_of_ble_eq_true rfl) rfl (fun κ X ret => ?_)
  have fr_w : ∀ j, (77 ≤ j) → w j = w j := fun _ _ => rfl
  refine r_iload_n X eX5_lay_0 rfl ?_
  refine cp_X5_78 X eX5_lay_1 (c_X5_isBit _ G b N w how) (by decide) rfl (Nat.le_of_ble_eq_true rfl) ?_
  refine r_ifne_b (tgt := 10) X eX5_lay_4 (by decide) (fun c_1 => ?_) (fun c_1 => ?_)
  ·
    obtain ⟨nh, hnh, rfl, hi_nh⟩ := i2n (x := how) (by omega)
    refine r_aload_n X eX5_lay_10 rfl ?_
    refine gf_X5_26 X eX5_lay_11 (by omega) z0 ?_
    refine r_iload_n X eX5_lay_14 rfl ?_
    refine r_aload_n X eX5_lay_15 rfl ?_
    refine gf_X5_10 X eX5_lay_16 (by omega) z0 ?_
    refine gf_X5_56 X eX5_lay_19 (by omega) hpo ?_
    refine r_aload_n X eX5_lay_22 rfl ?_
    refine gf_X5_10 X eX5_lay_23 (by omega) z0 ?_
    refine gf_X5_60 X eX5_lay_26 (by omega) hpo ?_
    refine cp_X5_109 X eX5_lay_29 (c_X2_firstFault _ G b N w 8 (by omega) n sg hpd nh P.1 P.2.1 (by omega) o1 o2 o3 o4) (by decide) (by omega) hpdo rfl (Nat.le_of_ble_eq_true rfl) ?_
    refine r_bipush X eX5_lay_32 ((-6 : Int32)) (by decide) ?_
    refine r_icmp_eq (tgt := 40) X eX5_lay_34 (by decide) rfl rfl (fun c_2 => ?_) (fun c_2 => ?_)
    ·
      refine r_aload_n X eX5_lay_40 rfl ?_
      refine gf_X5_26 X eX5_lay_41 (by omega) z0 ?_
      rcases (show nh = 0 ∨ nh = 1 by omega) with rfl | rfl
      ·
        refine r_aload_n X eX5_lay_44 rfl ?_
        refine gf_X5_10 X eX5_lay_45 (by omega) z0 ?_
        refine r_iload_n X eX5_lay_48 rfl ?_
        refine cv_X5_112 X eX5_lay_49 (p_lay0 _ G b N w 1 (by omega) lw P hp 8 (by omega) n sg hpd (by omega)) (by decide) (by omega) hpdo rfl (Nat.le_of_ble_eq_true rfl) (fun r3 w3 hp3 => ?_)
        obtain ⟨ro, hq, g3⟩ := hp3
        have z0_w3 := (g3 0 (by omega)).trans z0
        have hso_w3 := (g3 4 (by omega)).trans hso
        have hpdo_w3 := (g3 8 (by omega)).trans hpdo
        have hac_w3 := (g3 10 (by omega)).trans hac
        have him_w3 := (g3 69 (by omega)).trans him
        have hkf_w3 := (g3 76 (by omega)).trans hkf
        have m4_w3 : w3 1 = .inr (3, [.int (nI ((layP P sg 0).1)), .int (nI ((layP P sg 0).2.1)), .int (nI lw), .ref (b + 2), .ref (b + 3)]) := hq.obj
        have fr_w3 : ∀ j, (77 ≤ j) → w3 j = w j := fun j hj => (g3 j (by omega)).trans (fr_w j hj)
        have hs2 := sysC_P hs hq (fun j hj => g3 j (by omega))
        have hpd2 := hpd.fr (w2 := w3) (fun j h1 h2 => g3 j (by omega))
        refine r_istore_n X eX5_lay_52 (Nat.le_of_ble_eq_true rfl) (L2 := [some (.ref (b + 0)), some (.int (nI 0)), some (.int r3)]) rfl ?_
        refine r_aload_n X eX5_lay_53 rfl ?_
        refine gf_X5_26 X eX5_lay_54 (by omega) z0_w3 ?_
        refine cv_X5_105 X eX5_lay_57 (c_X2_clear _ G b N w3 8 (by omega) n sg hpd2) (by decide) (by omega) hpdo_w3 rfl (Nat.le_of_ble_eq_true rfl) (fun r5 w5 hp5 => ?_)
        obtain ⟨rz, hq3, g5⟩ := hp5
        have z0_w5 := (g5 0 (by omega)).trans z0_w3
        have hso_w5 := (g5 4 (by omega)).trans hso_w3
        have hac_w5 := (g5 10 (by omega)).trans hac_w3
        have him_w5 := (g5 69 (by omega)).trans him_w3
        have hkf_w5 := (g5 76 (by omega)).trans hkf_w3
        have m4_w5 := (g5 1 (by omega)).trans m4_w3
        have m6_w5 : w5 8 = .inr (2, [.int (nI 0), .ref (b + 9)]) := hq3.1
        have fr_w5 : ∀ j, (77 ≤ j) → w5 j = w j := fun j hj => (g5 j (by omega)).trans (fr_w3 j hj)
        have hs3 := sysC_D hs2 hq3 (fun j hj => g5 j (by omega))
        refine r_pop X eX5_lay_60 rfl ?_
        refine r_iload_n X eX5_lay_61 rfl ?_
        exact ret _ _ _ _ _ eX5_lay_62 (by rw [show fLay lw P n sg im kf (nI 0) = (layC P sg 0, (lw, layP P sg 0, 0, sg, im, kf)) from by rw [fLay, if_pos c_1, tn_nI hnh, if_pos (Int32.toInt_inj.mp c_2)]]; exact ⟨ro, hs3, fr_w5⟩)
      ·
        refine r_aload_n X eX5_lay_44 rfl ?_
        refine gf_X5_10 X eX5_lay_45 (by omega) z0 ?_
        refine r_iload_n X eX5_lay_48 rfl ?_
        refine cv_X5_112 X eX5_lay_49 (p_lay1 _ G b N w 1 (by omega) lw P hp 8 (by omega) n sg hpd (by omega)) (by decide) (by omega) hpdo rfl (Nat.le_of_ble_eq_true rfl) (fun r7 w7 hp7 => ?_)
        obtain ⟨ro, hq, g7⟩ := hp7
        have z0_w7 := (g7 0 (by omega)).trans z0
        have hso_w7 := (g7 4 (by omega)).trans hso
        have hpdo_w7 := (g7 8 (by omega)).trans hpdo
        have hac_w7 := (g7 10 (by omega)).trans hac
        have him_w7 := (g7 69 (by omega)).trans him
        have hkf_w7 := (g7 76 (by omega)).trans hkf
        have m8_w7 : w7 1 = .inr (3, [.int (nI ((layP P sg 1).1)), .int (nI ((layP P sg 1).2.1)), .int (nI lw), .ref (b + 2), .ref (b + 3)]) := hq.obj
        have fr_w7 : ∀ j, (77 ≤ j) → w7 j = w j := fun j hj => (g7 j (by omega)).trans (fr_w j hj)
        have hs2 := sysC_P hs hq (fun j hj => g7 j (by omega))
        have hpd2 := hpd.fr (w2 := w7) (fun j h1 h2 => g7 j (by omega))
        refine r_istore_n X eX5_lay_52 (Nat.le_of_ble_eq_true rfl) (L2 := [some (.ref (b + 0)), some (.int (nI 1)), some (.int r7)]) rfl ?_
        refine r_aload_n X eX5_lay_53 rfl ?_
        refine gf_X5_26 X eX5_lay_54 (by omega) z0_w7 ?_
        refine cv_X5_105 X eX5_lay_57 (c_X2_clear _ G b N w7 8 (by omega) n sg hpd2) (by decide) (by omega) hpdo_w7 rfl (Nat.le_of_ble_eq_true rfl) (fun r9 w9 hp9 => ?_)
        obtain ⟨rz, hq3, g9⟩ := hp9
        have z0_w9 := (g9 0 (by omega)).trans z0_w7
        have hso_w9 := (g9 4 (by omega)).trans hso_w7
        have hac_w9 := (g9 10 (by omega)).trans hac_w7
        have him_w9 := (g9 69 (by omega)).trans him_w7
        have hkf_w9 := (g9 76 (by omega)).trans hkf_w7
        have m8_w9 := (g9 1 (by omega)).trans m8_w7
        have m10_w9 : w9 8 = .inr (2, [.int (nI 0), .ref (b + 9)]) := hq3.1
        have fr_w9 : ∀ j, (77 ≤ j) → w9 j = w j := fun j hj => (g9 j (by omega)).trans (fr_w7 j hj)
        have hs3 := sysC_D hs2 hq3 (fun j hj => g9 j (by omega))
        refine r_pop X eX5_lay_60 rfl ?_
        refine r_iload_n X eX5_lay_61 rfl ?_
        exact ret _ _ _ _ _ eX5_lay_62 (by rw [show fLay lw P n sg im kf (nI 1) = (layC P sg 1, (lw, layP P sg 1, 0, sg, im, kf)) from by rw [fLay, if_pos c_1, tn_nI hnh, if_pos (Int32.toInt_inj.mp c_2)]]; exact ⟨ro, hs3, fr_w9⟩)
    ·
      refine r_bipush X eX5_lay_37 ((-7 : Int32)) (by decide) ?_
      exact ret _ _ _ _ _ eX5_lay_39 (by rw [show fLay lw P n sg im kf (nI nh) = (-7, (lw, P, n, sg, im, kf)) from by rw [fLay, if_pos c_1, tn_nI hnh, if_neg (fun q => c_2 (congrArg Int32.toInt q))]]; exact ⟨rfl, hs, fr_w⟩)
  ·
    refine r_bipush X eX5_lay_7 ((-2 : Int32)) (by decide) ?_
    exact ret _ _ _ _ _ eX5_lay_9 (by rw [show fLay lw P n sg im kf how = (-2, (lw, P, n, sg, im, kf)) from if_neg c_1]; exact ⟨rfl, hs, fr_w⟩)
