set_option maxHeartbeats 4000000 in
set_option maxRecDepth 100000 in
theorem c_X6_in (l : Launch) (G : Gs) (b N : Nat) (w : Wd) (v lo hi : Int32) (A1 B1 C1 : Int) (hA1 : v.toInt = A1) (hB1 : lo.toInt = B1) (hC1 : hi.toInt = C1) : CI l yX6_in cX6_in 3 (some .boolean) 0 G b N w [.int v, .int lo, .int hi] (fun r w2 => r = bI (B1 ≤ A1 ∧ A1 ≤ C1) ∧ w2 = w) := by
  refine CZ_of (L0 := [some (.int v), some (.int lo), some (.int hi)]) (by decide) rfl (by simp [Value.category]) rfl (Nat.le_of_ble_eq_true rfl) rfl (fun κ X ret => ?_)
  refine r_iload_n X eX6_in_0 rfl ?_
  refine r_iload_n X eX6_in_1 rfl ?_
  refine r_icmp_lt (tgt := 14) X eX6_in_2 (by decide) hA1 hB1 (fun c_1 => ?_) (fun c_1 => ?_)
  ·
    refine r_iconst X eX6_in_14 (nI 0) (by decide) ?_
    exact ret _ _ _ _ _ eX6_in_15 (Or.inl rfl) (⟨bI_f (by omega), rfl⟩)
  ·
    refine r_iload_n X eX6_in_5 rfl ?_
    refine r_iload_n X eX6_in_6 rfl ?_
    refine r_icmp_gt (tgt := 14) X eX6_in_7 (by decide) hA1 hC1 (fun c_2 => ?_) (fun c_2 => ?_)
    ·
      refine r_iconst X eX6_in_14 (nI 0) (by decide) ?_
      exact ret _ _ _ _ _ eX6_in_15 (Or.inl rfl) (⟨bI_f (by omega), rfl⟩)
    ·
      refine r_iconst X eX6_in_10 (nI 1) (by decide) ?_
      refine r_goto (tgt := 15) X eX6_in_11 (by decide) ?_
      exact ret _ _ _ _ _ eX6_in_15 (Or.inr rfl) (⟨bI_t (by omega), rfl⟩)
set_option maxHeartbeats 4000000 in
set_option maxRecDepth 100000 in
theorem c_X6_size (l : Launch) (G : Gs) (b N : Nat) (w : Wd) (v : Int32) : CI l yX6_size cX6_size 1 (some .int) 0 G b N w [.int v] (fun r w2 => r = iab v ∧ w2 = w) := by
  refine CI_of (L0 := [some (.int v)]) (by decide) rfl (by simp [Value.category]) rfl (Nat.le_of_ble_eq_true rfl) rfl (fun κ X ret => ?_)
  refine r_iload_n X eX6_size_0 rfl ?_
  refine r_if_ge (tgt := 9) X eX6_size_1 (by decide) rfl (fun c_1 => ?_) (fun c_1 => ?_)
  ·
    refine r_iload_n X eX6_size_9 rfl ?_
    exact ret _ _ _ _ _ eX6_size_10 (⟨iab_p (by omega), rfl⟩)
  ·
    refine r_iload_n X eX6_size_4 rfl ?_
    refine r_ineg X eX6_size_5 (-v) rfl ?_
    refine r_goto (tgt := 10) X eX6_size_6 (by decide) ?_
    exact ret _ _ _ _ _ eX6_size_10 (⟨iab_m (by omega), rfl⟩)
set_option maxHeartbeats 4000000 in
set_option maxRecDepth 100000 in
theorem c_X6_at (l : Launch) (G : Gs) (b N : Nat) (w : Wd) (x y : Nat) : CI l yX6_at cX6_at 2 (some .int) 0 G b N w [.int (nI x), .int (nI y)] (fun r w2 => r = nI (8 * y + x) ∧ w2 = w) := by
  refine CI_of (L0 := [some (.int (nI x)), some (.int (nI y))]) (by decide) rfl (by simp [Value.category]) rfl (Nat.le_of_ble_eq_true rfl) rfl (fun κ X ret => ?_)
  refine r_bipush X eX6_at_0 (nI 8) (by decide) ?_
  refine r_iload_n X eX6_at_2 rfl ?_
  refine r_imul X eX6_at_3 (nI (8 * y)) (pk_mul _ _) ?_
  refine r_iload_n X eX6_at_4 rfl ?_
  refine r_iadd X eX6_at_5 (nI ((8 * y) + x)) (addN (by omega)) ?_
  exact ret _ _ _ _ _ eX6_at_6 (⟨rfl, rfl⟩)
set_option maxHeartbeats 4000000 in
set_option maxRecDepth 100000 in
theorem c_X6_greyAt (l : Launch) (G : Gs) (b N : Nat) (w : Wd) (hN : 88 ≤ N) (n wd hg : Nat) (sc kc bc bo ag bk : Int32) (st ims kf sg gr mk rs se tt tc : Nat → Int32) (hm : mW G b w n wd hg sc kc bc bo ag bk st ims kf sg gr mk rs se tt tc) (x y : Nat) (hx : x < 8) (hy : y < 8) : CI l yX6_greyAt cX6_greyAt 3 (some .int) 1 G b N w [.ref (b + 77), .int (nI x), .int (nI y)] (fun r w2 => r = mv gr y x ∧ w2 = w) := by
  obtain ⟨m0, m1, m2, m3, m4, m5, m6, m7, m8, m9, m10⟩ := hm
  refine CI_of (L0 := [some (.ref (b + 77)), some (.int (nI x)), some (.int (nI y))]) (by decide) rfl (by simp [Value.category]) rfl (Nat.le_of_ble_eq_true rfl) rfl (fun κ X ret => ?_)
  refine r_aload_n X eX6_greyAt_0 rfl ?_
  refine gf_X6_23 X eX6_greyAt_1 (by omega) m0 ?_
  refine r_iload_n X eX6_greyAt_4 rfl ?_
  refine r_iload_n X eX6_greyAt_5 rfl ?_
  refine cp_X6_52 X eX6_greyAt_6 (c_X6_at _ G b N w x y) (by decide) rfl (Nat.le_of_ble_eq_true rfl) ?_
  refine r_iald X eX6_greyAt_9 (by omega) m5 (by omega) (by decide) ?_
  exact ret _ _ _ _ _ eX6_greyAt_10 (⟨rfl, rfl⟩)
set_option maxHeartbeats 4000000 in
set_option maxRecDepth 100000 in
theorem c_X6_left (l : Launch) (G : Gs) (b N : Nat) (w : Wd) (hN : 88 ≤ N) (n wd hg : Nat) (sc kc bc bo ag bk : Int32) (st ims kf sg gr mk rs se tt tc : Nat → Int32) (hm : mW G b w n wd hg sc kc bc bo ag bk st ims kf sg gr mk rs se tt tc) (x y : Nat) (hx : x < wd) (hy : y < hg) (h8 : wd ≤ 8) (h9 : hg ≤ 8) : CI l yX6_left cX6_left 3 (some .int) 2 G b N w [.ref (b + 77), .int (nI x), .int (nI y)] (fun r w2 => r = mv gr y (x - 1) ∧ w2 = w) := by
  obtain ⟨m0, m1, m2, m3, m4, m5, m6, m7, m8, m9, m10⟩ := hm
  refine CI_of (L0 := [some (.ref (b + 77)), some (.int (nI x)), some (.int (nI y))]) (by decide) rfl (by simp [Value.category]) rfl (Nat.le_of_ble_eq_true rfl) rfl (fun κ X ret => ?_)
  refine r_aload_n X eX6_left_0 rfl ?_
  refine r_iload_n X eX6_left_1 rfl ?_
  refine r_if_le (tgt := 11) X eX6_left_2 (by decide) (nI_toInt (by omega)) (fun c_1 => ?_) (fun c_1 => ?_)
  ·
    refine r_iload_n X eX6_left_11 rfl ?_
    refine r_iload_n X eX6_left_12 rfl ?_
    refine cp_X6_56 X eX6_left_13 (c_X6_greyAt _ G b N w hN n wd hg sc kc bc bo ag bk st ims kf sg gr mk rs se tt tc ⟨m0, m1, m2, m3, m4, m5, m6, m7, m8, m9, m10⟩ x y (by omega) (by omega)) (by decide) (by omega) m0 rfl (Nat.le_of_ble_eq_true rfl) ?_
    exact ret _ _ _ _ _ eX6_left_16 (⟨by rw [show x - 1 = x by omega], rfl⟩)
  ·
    refine r_iload_n X eX6_left_5 rfl ?_
    refine r_iconst X eX6_left_6 (nI 1) (by decide) ?_
    refine r_isub X eX6_left_7 (nI (x - 1)) (pk_sub (by omega)) ?_
    refine r_goto (tgt := 12) X eX6_left_8 (by decide) ?_
    refine r_iload_n X eX6_left_12 rfl ?_
    refine cp_X6_56 X eX6_left_13 (c_X6_greyAt _ G b N w hN n wd hg sc kc bc bo ag bk st ims kf sg gr mk rs se tt tc ⟨m0, m1, m2, m3, m4, m5, m6, m7, m8, m9, m10⟩ (x - 1) y (by omega) (by omega)) (by decide) (by omega) m0 rfl (Nat.le_of_ble_eq_true rfl) ?_
    exact ret _ _ _ _ _ eX6_left_16 (⟨rfl, rfl⟩)
set_option maxHeartbeats 4000000 in
set_option maxRecDepth 100000 in
theorem c_X6_right (l : Launch) (G : Gs) (b N : Nat) (w : Wd) (hN : 88 ≤ N) (n wd hg : Nat) (sc kc bc bo ag bk : Int32) (st ims kf sg gr mk rs se tt tc : Nat → Int32) (hm : mW G b w n wd hg sc kc bc bo ag bk st ims kf sg gr mk rs se tt tc) (x y : Nat) (hx : x < wd) (hy : y < hg) (h8 : wd ≤ 8) (h9 : hg ≤ 8) : CI l yX6_right cX6_right 3 (some .int) 2 G b N w [.ref (b + 77), .int (nI x), .int (nI y)] (fun r w2 => r = mv gr y (min (x + 1) (wd - 1)) ∧ w2 = w) := by
  obtain ⟨m0, m1, m2, m3, m4, m5, m6, m7, m8, m9, m10⟩ := hm
  refine CI_of (L0 := [some (.ref (b + 77)), some (.int (nI x)), some (.int (nI y))]) (by decide) rfl (by simp [Value.category]) rfl (Nat.le_of_ble_eq_true rfl) rfl (fun κ X ret => ?_)
  refine r_aload_n X eX6_right_0 rfl ?_
  refine r_iload_n X eX6_right_1 rfl ?_
  refine r_iconst X eX6_right_2 (nI 1) (by decide) ?_
  refine r_iadd X eX6_right_3 (nI (x + 1)) (addN (by omega)) ?_
  refine r_aload_n X eX6_right_4 rfl ?_
  refine gf_X6_45 X eX6_right_5 (by omega) m0 ?_
  refine r_icmp_ge (tgt := 17) X eX6_right_8 (by decide) (nI_toInt (by omega)) (nI_toInt (by omega)) (fun c_1 => ?_) (fun c_1 => ?_)
  ·
    refine r_iload_n X eX6_right_17 rfl ?_
    refine r_iload_n X eX6_right_18 rfl ?_
    refine cp_X6_56 X eX6_right_19 (c_X6_greyAt _ G b N w hN n wd hg sc kc bc bo ag bk st ims kf sg gr mk rs se tt tc ⟨m0, m1, m2, m3, m4, m5, m6, m7, m8, m9, m10⟩ x y (by omega) (by omega)) (by decide) (by omega) m0 rfl (Nat.le_of_ble_eq_true rfl) ?_
    exact ret _ _ _ _ _ eX6_right_22 (⟨by rw [show min (x + 1) (wd - 1) = x by omega], rfl⟩)
  ·
    refine r_iload_n X eX6_right_11 rfl ?_
    refine r_iconst X eX6_right_12 (nI 1) (by decide) ?_
    refine r_iadd X eX6_right_13 (nI (x + 1)) (addN (by omega)) ?_
    refine r_goto (tgt := 18) X eX6_right_14 (by decide) ?_
    refine r_iload_n X eX6_right_18 rfl ?_
    refine cp_X6_56 X eX6_right_19 (c_X6_greyAt _ G b N w hN n wd hg sc kc bc bo ag bk st ims kf sg gr mk rs se tt tc ⟨m0, m1, m2, m3, m4, m5, m6, m7, m8, m9, m10⟩ (x + 1) y (by omega) (by omega)) (by decide) (by omega) m0 rfl (Nat.le_of_ble_eq_true rfl) ?_
    exact ret _ _ _ _ _ eX6_right_22 (⟨by rw [show min (x + 1) (wd - 1) = x + 1 by omega], rfl⟩)
set_option maxHeartbeats 4000000 in
set_option maxRecDepth 100000 in
theorem c_X6_above (l : Launch) (G : Gs) (b N : Nat) (w : Wd) (hN : 88 ≤ N) (n wd hg : Nat) (sc kc bc bo ag bk : Int32) (st ims kf sg gr mk rs se tt tc : Nat → Int32) (hm : mW G b w n wd hg sc kc bc bo ag bk st ims kf sg gr mk rs se tt tc) (x y : Nat) (hx : x < wd) (hy : y < hg) (h8 : wd ≤ 8) (h9 : hg ≤ 8) : CI l yX6_above cX6_above 3 (some .int) 2 G b N w [.ref (b + 77), .int (nI x), .int (nI y)] (fun r w2 => r = mv gr (y - 1) x ∧ w2 = w) := by
  obtain ⟨m0, m1, m2, m3, m4, m5, m6, m7, m8, m9, m10⟩ := hm
  refine CI_of (L0 := [some (.ref (b + 77)), some (.int (nI x)), some (.int (nI y))]) (by decide) rfl (by simp [Value.category]) rfl (Nat.le_of_ble_eq_true rfl) rfl (fun κ X ret => ?_)
  refine r_aload_n X eX6_above_0 rfl ?_
  refine r_iload_n X eX6_above_1 rfl ?_
  refine r_iload_n X eX6_above_2 rfl ?_
  refine r_if_le (tgt := 12) X eX6_above_3 (by decide) (nI_toInt (by omega)) (fun c_1 => ?_) (fun c_1 => ?_)
  ·
    refine r_iload_n X eX6_above_12 rfl ?_
    refine cp_X6_56 X eX6_above_13 (c_X6_greyAt _ G b N w hN n wd hg sc kc bc bo ag bk st ims kf sg gr mk rs se tt tc ⟨m0, m1, m2, m3, m4, m5, m6, m7, m8, m9, m10⟩ x y (by omega) (by omega)) (by decide) (by omega) m0 rfl (Nat.le_of_ble_eq_true rfl) ?_
    exact ret _ _ _ _ _ eX6_above_16 (⟨by rw [show y - 1 = y by omega], rfl⟩)
  ·
    refine r_iload_n X eX6_above_6 rfl ?_
    refine r_iconst X eX6_above_7 (nI 1) (by decide) ?_
    refine r_isub X eX6_above_8 (nI (y - 1)) (pk_sub (by omega)) ?_
    refine r_goto (tgt := 13) X eX6_above_9 (by decide) ?_
    refine cp_X6_56 X eX6_above_13 (c_X6_greyAt _ G b N w hN n wd hg sc kc bc bo ag bk st ims kf sg gr mk rs se tt tc ⟨m0, m1, m2, m3, m4, m5, m6, m7, m8, m9, m10⟩ x (y - 1) (by omega) (by omega)) (by decide) (by omega) m0 rfl (Nat.le_of_ble_eq_true rfl) ?_
    exact ret _ _ _ _ _ eX6_above_16 (⟨rfl, rfl⟩)
set_option maxHeartbeats 4000000 in
set_option maxRecDepth 100000 in
theorem c_X6_below (l : Launch) (G : Gs) (b N : Nat) (w : Wd) (hN : 88 ≤ N) (n wd hg : Nat) (sc kc bc bo ag bk : Int32) (st ims kf sg gr mk rs se tt tc : Nat → Int32) (hm : mW G b w n wd hg sc kc bc bo ag bk st ims kf sg gr mk rs se tt tc) (x y : Nat) (hx : x < wd) (hy : y < hg) (h8 : wd ≤ 8) (h9 : hg ≤ 8) : CI l yX6_below cX6_below 3 (some .int) 2 G b N w [.ref (b + 77), .int (nI x), .int (nI y)] (fun r w2 => r = mv gr (min (y + 1) (hg - 1)) x ∧ w2 = w) := by
  obtain ⟨m0, m1, m2, m3, m4, m5, m6, m7, m8, m9, m10⟩ := hm
  refine CI_of (L0 := [some (.ref (b + 77)), some (.int (nI x)), some (.int (nI y))]) (by decide) rfl (by simp [Value.category]) rfl (Nat.le_of_ble_eq_true rfl) rfl (fun κ X ret => ?_)
  refine r_aload_n X eX6_below_0 rfl ?_
  refine r_iload_n X eX6_below_1 rfl ?_
  refine r_iload_n X eX6_below_2 rfl ?_
  refine r_iconst X eX6_below_3 (nI 1) (by decide) ?_
  refine r_iadd X eX6_below_4 (nI (y + 1)) (addN (by omega)) ?_
  refine r_aload_n X eX6_below_5 rfl ?_
  refine gf_X6_49 X eX6_below_6 (by omega) m0 ?_
  refine r_icmp_ge (tgt := 18) X eX6_below_9 (by decide) (nI_toInt (by omega)) (nI_toInt (by omega)) (fun c_1 => ?_) (fun c_1 => ?_)
  ·
    refine r_iload_n X eX6_below_18 rfl ?_
    refine cp_X6_56 X eX6_below_19 (c_X6_greyAt _ G b N w hN n wd hg sc kc bc bo ag bk st ims kf sg gr mk rs se tt tc ⟨m0, m1, m2, m3, m4, m5, m6, m7, m8, m9, m10⟩ x y (by omega) (by omega)) (by decide) (by omega) m0 rfl (Nat.le_of_ble_eq_true rfl) ?_
    exact ret _ _ _ _ _ eX6_below_22 (⟨by rw [show min (y + 1) (hg - 1) = y by omega], rfl⟩)
  ·
    refine r_iload_n X eX6_below_12 rfl ?_
    refine r_iconst X eX6_below_13 (nI 1) (by decide) ?_
    refine r_iadd X eX6_below_14 (nI (y + 1)) (addN (by omega)) ?_
    refine r_goto (tgt := 19) X eX6_below_15 (by decide) ?_
    refine cp_X6_56 X eX6_below_19 (c_X6_greyAt _ G b N w hN n wd hg sc kc bc bo ag bk st ims kf sg gr mk rs se tt tc ⟨m0, m1, m2, m3, m4, m5, m6, m7, m8, m9, m10⟩ x (y + 1) (by omega) (by omega)) (by decide) (by omega) m0 rfl (Nat.le_of_ble_eq_true rfl) ?_
    exact ret _ _ _ _ _ eX6_below_22 (⟨by rw [show min (y + 1) (hg - 1) = y + 1 by omega], rfl⟩)
set_option maxHeartbeats 4000000 in
set_option maxRecDepth 100000 in
theorem c_X6_extra (l : Launch) (G : Gs) (b N : Nat) (w : Wd) (hN : 88 ≤ N) (n wd hg : Nat) (sc kc bc bo ag bk : Int32) (st ims kf sg gr mk rs se tt tc : Nat → Int32) (hm : mW G b w n wd hg sc kc bc bo ag bk st ims kf sg gr mk rs se tt tc) (x y : Nat) (hx : x < wd) (hy : y < hg) (h8 : wd ≤ 8) (h9 : hg ≤ 8) : CI l yX6_extra cX6_extra 4 (some .int) 1 G b N w [.ref (b + 77), .int (nI x), .int (nI y)] (fun r w2 => r = exS (mv mk) y x ∧ w2 = w) := by
  obtain ⟨m0, m1, m2, m3, m4, m5, m6, m7, m8, m9, m10⟩ := hm
  refine CI_of (L0 := [some (.ref (b + 77)), some (.int (nI x)), some (.int (nI y)), none]) (by decide) rfl (by simp [Value.category]) rfl (Nat.le_of_ble_eq_true rfl) rfl (fun κ X ret => ?_)
  refine r_aload_n X eX6_extra_0 rfl ?_
  refine gf_X6_26 X eX6_extra_1 (by omega) m0 ?_
  refine r_iload_n X eX6_extra_4 rfl ?_
  refine r_iload_n X eX6_extra_5 rfl ?_
  refine cp_X6_52 X eX6_extra_6 (c_X6_at _ G b N w x y) (by decide) rfl (Nat.le_of_ble_eq_true rfl) ?_
  refine r_iald X eX6_extra_9 (by omega) m6 (by omega) (by decide) ?_
  refine r_istore_n X eX6_extra_10 (Nat.le_of_ble_eq_true rfl) (L2 := [some (.ref (b + 77)), some (.int (nI x)), some (.int (nI y)), some (.int (mk (8 * y + x)))]) rfl ?_
  refine r_iload_n X eX6_extra_11 rfl ?_
  refine r_iconst X eX6_extra_12 ((1 : Int32)) (by decide) ?_
  refine r_icmp_ne (tgt := 21) X eX6_extra_13 (by decide) rfl rfl (fun c_1 => ?_) (fun c_1 => ?_)
  ·
    refine r_iload_n X eX6_extra_21 rfl ?_
    refine r_iconst X eX6_extra_22 ((2 : Int32)) (by decide) ?_
    refine r_icmp_ne (tgt := 31) X eX6_extra_23 (by decide) rfl rfl (fun c_2 => ?_) (fun c_2 => ?_)
    ·
      refine r_iconst X eX6_extra_31 ((0 : Int32)) (by decide) ?_
      exact ret _ _ _ _ _ eX6_extra_32 (⟨(exS_0 (m := mv mk) (fun q => c_1 (congrArg Int32.toInt q)) (fun q => c_2 (congrArg Int32.toInt q))).symm, rfl⟩)
    ·
      refine r_bipush X eX6_extra_26 ((-100 : Int32)) (by decide) ?_
      refine r_goto (tgt := 32) X eX6_extra_28 (by decide) ?_
      exact ret _ _ _ _ _ eX6_extra_32 (⟨(exS_2 (m := mv mk) (fun q => c_1 (congrArg Int32.toInt q)) (Int32.toInt_inj.mp c_2)).symm, rfl⟩)
  ·
    refine r_bipush X eX6_extra_16 ((100 : Int32)) (by decide) ?_
    refine r_goto (tgt := 32) X eX6_extra_18 (by decide) ?_
    exact ret _ _ _ _ _ eX6_extra_32 (⟨(exS_1 (m := mv mk) (Int32.toInt_inj.mp c_1)).symm, rfl⟩)
set_option maxHeartbeats 4000000 in
set_option maxRecDepth 100000 in
theorem c_X6_across (l : Launch) (G : Gs) (b N : Nat) (w : Wd) (hN : 88 ≤ N) (n wd hg : Nat) (sc kc bc bo ag bk : Int32) (st ims kf sg gr mk rs se tt tc : Nat → Int32) (hm : mW G b w n wd hg sc kc bc bo ag bk st ims kf sg gr mk rs se tt tc) (x y : Nat) (hx : x < wd) (hy : y < hg) (h8 : wd ≤ 8) (h9 : hg ≤ 8) : CI l yX6_across cX6_across 3 (some .int) 3 G b N w [.ref (b + 77), .int (nI x), .int (nI y)] (fun r w2 => r = gapS wd (mv gr) y x ∧ w2 = w) := by
  obtain ⟨m0, m1, m2, m3, m4, m5, m6, m7, m8, m9, m10⟩ := hm
  refine CI_of (L0 := [some (.ref (b + 77)), some (.int (nI x)), some (.int (nI y))]) (by decide) rfl (by simp [Value.category]) rfl (Nat.le_of_ble_eq_true rfl) rfl (fun κ X ret => ?_)
  refine r_aload_n X eX6_across_0 rfl ?_
  refine r_iload_n X eX6_across_1 rfl ?_
  refine r_iload_n X eX6_across_2 rfl ?_
  refine cp_X6_59 X eX6_across_3 (c_X6_left _ G b N w hN n wd hg sc kc bc bo ag bk st ims kf sg gr mk rs se tt tc ⟨m0, m1, m2, m3, m4, m5, m6, m7, m8, m9, m10⟩ x y hx hy h8 h9) (by decide) (by omega) m0 rfl (Nat.le_of_ble_eq_true rfl) ?_
  refine r_aload_n X eX6_across_6 rfl ?_
  refine r_iload_n X eX6_across_7 rfl ?_
  refine r_iload_n X eX6_across_8 rfl ?_
  refine cp_X6_62 X eX6_across_9 (c_X6_right _ G b N w hN n wd hg sc kc bc bo ag bk st ims kf sg gr mk rs se tt tc ⟨m0, m1, m2, m3, m4, m5, m6, m7, m8, m9, m10⟩ x y hx hy h8 h9) (by decide) (by omega) m0 rfl (Nat.le_of_ble_eq_true rfl) ?_
  refine r_isub X eX6_across_12 ((mv gr y (x - 1)) - (mv gr y (min (x + 1) (wd - 1)))) rfl ?_
  refine cp_X6_65 X eX6_across_13 (c_X6_size _ G b N w ((mv gr y (x - 1)) - (mv gr y (min (x + 1) (wd - 1))))) (by decide) rfl (Nat.le_of_ble_eq_true rfl) ?_
  exact ret _ _ _ _ _ eX6_across_16 (⟨rfl, rfl⟩)
set_option maxHeartbeats 4000000 in
set_option maxRecDepth 100000 in
theorem c_X6_edge (l : Launch) (G : Gs) (b N : Nat) (w : Wd) (hN : 88 ≤ N) (n wd hg : Nat) (sc kc bc bo ag bk : Int32) (st ims kf sg gr mk rs se tt tc : Nat → Int32) (hm : mW G b w n wd hg sc kc bc bo ag bk st ims kf sg gr mk rs se tt tc) (x y : Nat) (hx : x < wd) (hy : y < hg) (h8 : wd ≤ 8) (h9 : hg ≤ 8) : CI l yX6_edge cX6_edge 3 (some .int) 4 G b N w [.ref (b + 77), .int (nI x), .int (nI y)] (fun r w2 => r = gapS wd (mv gr) y x + vgapS hg (mv gr) y x ∧ w2 = w) := by
  obtain ⟨m0, m1, m2, m3, m4, m5, m6, m7, m8, m9, m10⟩ := hm
  refine CI_of (L0 := [some (.ref (b + 77)), some (.int (nI x)), some (.int (nI y))]) (by decide) rfl (by simp [Value.category]) rfl (Nat.le_of_ble_eq_true rfl) rfl (fun κ X ret => ?_)
  refine r_aload_n X eX6_edge_0 rfl ?_
  refine r_iload_n X eX6_edge_1 rfl ?_
  refine r_iload_n X eX6_edge_2 rfl ?_
  refine cp_X6_69 X eX6_edge_3 (c_X6_across _ G b N w hN n wd hg sc kc bc bo ag bk st ims kf sg gr mk rs se tt tc ⟨m0, m1, m2, m3, m4, m5, m6, m7, m8, m9, m10⟩ x y hx hy h8 h9) (by decide) (by omega) m0 rfl (Nat.le_of_ble_eq_true rfl) ?_
  refine r_aload_n X eX6_edge_6 rfl ?_
  refine r_iload_n X eX6_edge_7 rfl ?_
  refine r_iload_n X eX6_edge_8 rfl ?_
  refine cp_X6_72 X eX6_edge_9 (c_X6_above _ G b N w hN n wd hg sc kc bc bo ag bk st ims kf sg gr mk rs se tt tc ⟨m0, m1, m2, m3, m4, m5, m6, m7, m8, m9, m10⟩ x y hx hy h8 h9) (by decide) (by omega) m0 rfl (Nat.le_of_ble_eq_true rfl) ?_
  refine r_aload_n X eX6_edge_12 rfl ?_
  refine r_iload_n X eX6_edge_13 rfl ?_
  refine r_iload_n X eX6_edge_14 rfl ?_
  refine cp_X6_75 X eX6_edge_15 (c_X6_below _ G b N w hN n wd hg sc kc bc bo ag bk st ims kf sg gr mk rs se tt tc ⟨m0, m1, m2, m3, m4, m5, m6, m7, m8, m9, m10⟩ x y hx hy h8 h9) (by decide) (by omega) m0 rfl (Nat.le_of_ble_eq_true rfl) ?_
  refine r_isub X eX6_edge_18 ((mv gr (y - 1) x) - (mv gr (min (y + 1) (hg - 1)) x)) rfl ?_
  refine cp_X6_65 X eX6_edge_19 (c_X6_size _ G b N w ((mv gr (y - 1) x) - (mv gr (min (y + 1) (hg - 1)) x))) (by decide) rfl (Nat.le_of_ble_eq_true rfl) ?_
  refine r_iadd X eX6_edge_22 ((gapS wd (mv gr) y x) + (iab ((mv gr (y - 1) x) - (mv gr (min (y + 1) (hg - 1)) x)))) rfl ?_
  exact ret _ _ _ _ _ eX6_edge_23 (⟨rfl, rfl⟩)
set_option maxHeartbeats 4000000 in
set_option maxRecDepth 100000 in
theorem c_X6_weight (l : Launch) (G : Gs) (b N : Nat) (w : Wd) (hN : 88 ≤ N) (n wd hg : Nat) (sc kc bc bo ag bk : Int32) (st ims kf sg gr mk rs se tt tc : Nat → Int32) (hm : mW G b w n wd hg sc kc bc bo ag bk st ims kf sg gr mk rs se tt tc) (x y : Nat) (hx : x < wd) (hy : y < hg) (h8 : wd ≤ 8) (h9 : hg ≤ 8) : CI l yX6_weight cX6_weight 3 (some .int) 5 G b N w [.ref (b + 77), .int (nI x), .int (nI y)] (fun r w2 => r = wtS wd hg (mv gr) (mv mk) y x ∧ w2 = w) := by
  obtain ⟨m0, m1, m2, m3, m4, m5, m6, m7, m8, m9, m10⟩ := hm
  refine CI_of (L0 := [some (.ref (b + 77)), some (.int (nI x)), some (.int (nI y))]) (by decide) rfl (by simp [Value.category]) rfl (Nat.le_of_ble_eq_true rfl) rfl (fun κ X ret => ?_)
  refine r_aload_n X eX6_weight_0 rfl ?_
  refine r_iload_n X eX6_weight_1 rfl ?_
  refine r_iload_n X eX6_weight_2 rfl ?_
  refine cp_X6_78 X eX6_weight_3 (c_X6_edge _ G b N w hN n wd hg sc kc bc bo ag bk st ims kf sg gr mk rs se tt tc ⟨m0, m1, m2, m3, m4, m5, m6, m7, m8, m9, m10⟩ x y hx hy h8 h9) (by decide) (by omega) m0 rfl (Nat.le_of_ble_eq_true rfl) ?_
  refine r_aload_n X eX6_weight_6 rfl ?_
  refine r_iload_n X eX6_weight_7 rfl ?_
  refine r_iload_n X eX6_weight_8 rfl ?_
  refine cp_X6_81 X eX6_weight_9 (c_X6_extra _ G b N w hN n wd hg sc kc bc bo ag bk st ims kf sg gr mk rs se tt tc ⟨m0, m1, m2, m3, m4, m5, m6, m7, m8, m9, m10⟩ x y hx hy h8 h9) (by decide) (by omega) m0 rfl (Nat.le_of_ble_eq_true rfl) ?_
  refine r_iadd X eX6_weight_12 ((gapS wd (mv gr) y x + vgapS hg (mv gr) y x) + (exS (mv mk) y x)) rfl ?_
  exact ret _ _ _ _ _ eX6_weight_13 (⟨rfl, rfl⟩)
set_option maxHeartbeats 4000000 in
set_option maxRecDepth 100000 in
theorem c_X6_costOf (l : Launch) (G : Gs) (b N : Nat) (w : Wd) (hN : 88 ≤ N) (n wd hg : Nat) (sc kc bc bo ag bk : Int32) (st ims kf sg gr mk rs se tt tc : Nat → Int32) (hm : mW G b w n wd hg sc kc bc bo ag bk st ims kf sg gr mk rs se tt tc) (x y : Nat) (hx : x < wd) (hy : y < hg) (h8 : wd ≤ 8) (h9 : hg ≤ 8) (lw : Nat) (hlw : lw < 2) (hst : st 130 = nI lw) (f : Nat) (hf : f < 8) : CI l yX6_costOf cX6_costOf 5 (some .int) 6 G b N w [.ref (b + 77), .int (nI x), .int (nI y), .int (nI f)] (fun r w2 => r = coS lw wd hg (mv gr) (mv mk) y x f ∧ w2 = w) := by
  obtain ⟨m0, m1, m2, m3, m4, m5, m6, m7, m8, m9, m10⟩ := hm
  refine CI_of (L0 := [some (.ref (b + 77)), some (.int (nI x)), some (.int (nI y)), some (.int (nI f)), none]) (by decide) rfl (by simp [Value.category]) rfl (Nat.le_of_ble_eq_true rfl) rfl (fun κ X ret => ?_)
  refine r_aload_n X eX6_costOf_0 rfl ?_
  refine gf_X6_7 X eX6_costOf_1 (by omega) m0 ?_
  refine r_sipush X eX6_costOf_4 (nI 130) (by decide) ?_
  refine r_iald X eX6_costOf_7 (by omega) m1 (by omega) (by decide) ?_
  refine r_top (y := nI lw) hst ?_
  refine r_if_ne (tgt := 18) X eX6_costOf_8 (by decide) (nI_toInt (by omega)) (fun c_1 => ?_) (fun c_1 => ?_)
  ·
    refine r_aload_n X eX6_costOf_18 rfl ?_
    refine r_iload_n X eX6_costOf_19 rfl ?_
    refine r_iload_n X eX6_costOf_20 rfl ?_
    refine cp_X6_81 X eX6_costOf_21 (c_X6_extra _ G b N w hN n wd hg sc kc bc bo ag bk st ims kf sg gr mk rs se tt tc ⟨m0, m1, m2, m3, m4, m5, m6, m7, m8, m9, m10⟩ x y hx hy h8 h9) (by decide) (by omega) m0 rfl (Nat.le_of_ble_eq_true rfl) ?_
    refine r_aload_n X eX6_costOf_24 rfl ?_
    refine r_iload_n X eX6_costOf_25 rfl ?_
    refine r_iload_n X eX6_costOf_26 rfl ?_
    refine cp_X6_69 X eX6_costOf_27 (c_X6_across _ G b N w hN n wd hg sc kc bc bo ag bk st ims kf sg gr mk rs se tt tc ⟨m0, m1, m2, m3, m4, m5, m6, m7, m8, m9, m10⟩ x y hx hy h8 h9) (by decide) (by omega) m0 rfl (Nat.le_of_ble_eq_true rfl) ?_
    refine r_iadd X eX6_costOf_30 ((exS (mv mk) y x) + (gapS wd (mv gr) y x)) rfl ?_
    refine r_istore X eX6_costOf_31 (Nat.le_of_ble_eq_true rfl) (L2 := [some (.ref (b + 77)), some (.int (nI x)), some (.int (nI y)), some (.int (nI f)), some (.int ((exS (mv mk) y x) + (gapS wd (mv gr) y x)))]) rfl ?_
    refine r_iload_n X eX6_costOf_33 rfl ?_
    refine r_iload_n X eX6_costOf_34 rfl ?_
    refine r_icmp_ge (tgt := 62) X eX6_costOf_35 (by decide) (nI_toInt (by omega)) (nI_toInt (by omega)) (fun c_2 => ?_) (fun c_2 => ?_)
    ·
      refine r_iload_n X eX6_costOf_62 rfl ?_
      refine r_iload_n X eX6_costOf_63 rfl ?_
      refine r_icmp_le (tgt := 88) X eX6_costOf_64 (by decide) (nI_toInt (by omega)) (nI_toInt (by omega)) (fun c_3 => ?_) (fun c_3 => ?_)
      ·
        refine r_iload X eX6_costOf_88 rfl ?_
        exact ret _ _ _ _ _ eX6_costOf_90 (⟨co_e (by omega) (by omega), rfl⟩)
      ·
        refine r_iload X eX6_costOf_67 rfl ?_
        refine r_aload_n X eX6_costOf_69 rfl ?_
        refine r_iload_n X eX6_costOf_70 rfl ?_
        refine r_iload_n X eX6_costOf_71 rfl ?_
        refine cp_X6_72 X eX6_costOf_72 (c_X6_above _ G b N w hN n wd hg sc kc bc bo ag bk st ims kf sg gr mk rs se tt tc ⟨m0, m1, m2, m3, m4, m5, m6, m7, m8, m9, m10⟩ x y hx hy h8 h9) (by decide) (by omega) m0 rfl (Nat.le_of_ble_eq_true rfl) ?_
        refine r_aload_n X eX6_costOf_75 rfl ?_
        refine r_iload_n X eX6_costOf_76 rfl ?_
        refine r_iload_n X eX6_costOf_77 rfl ?_
        refine cp_X6_62 X eX6_costOf_78 (c_X6_right _ G b N w hN n wd hg sc kc bc bo ag bk st ims kf sg gr mk rs se tt tc ⟨m0, m1, m2, m3, m4, m5, m6, m7, m8, m9, m10⟩ x y hx hy h8 h9) (by decide) (by omega) m0 rfl (Nat.le_of_ble_eq_true rfl) ?_
        refine r_isub X eX6_costOf_81 ((mv gr (y - 1) x) - (mv gr y (min (x + 1) (wd - 1)))) rfl ?_
        refine cp_X6_65 X eX6_costOf_82 (c_X6_size _ G b N w ((mv gr (y - 1) x) - (mv gr y (min (x + 1) (wd - 1))))) (by decide) rfl (Nat.le_of_ble_eq_true rfl) ?_
        refine r_iadd X eX6_costOf_85 (((exS (mv mk) y x) + (gapS wd (mv gr) y x)) + (iab ((mv gr (y - 1) x) - (mv gr y (min (x + 1) (wd - 1)))))) rfl ?_
        refine r_istore X eX6_costOf_86 (Nat.le_of_ble_eq_true rfl) (L2 := [some (.ref (b + 77)), some (.int (nI x)), some (.int (nI y)), some (.int (nI f)), some (.int (((exS (mv mk) y x) + (gapS wd (mv gr) y x)) + (iab ((mv gr (y - 1) x) - (mv gr y (min (x + 1) (wd - 1)))))))]) rfl ?_
        refine r_iload X eX6_costOf_88 rfl ?_
        exact ret _ _ _ _ _ eX6_costOf_90 (⟨co_r (by omega) (by omega), rfl⟩)
    ·
      refine r_iload X eX6_costOf_38 rfl ?_
      refine r_aload_n X eX6_costOf_40 rfl ?_
      refine r_iload_n X eX6_costOf_41 rfl ?_
      refine r_iload_n X eX6_costOf_42 rfl ?_
      refine cp_X6_72 X eX6_costOf_43 (c_X6_above _ G b N w hN n wd hg sc kc bc bo ag bk st ims kf sg gr mk rs se tt tc ⟨m0, m1, m2, m3, m4, m5, m6, m7, m8, m9, m10⟩ x y hx hy h8 h9) (by decide) (by omega) m0 rfl (Nat.le_of_ble_eq_true rfl) ?_
      refine r_aload_n X eX6_costOf_46 rfl ?_
      refine r_iload_n X eX6_costOf_47 rfl ?_
      refine r_iload_n X eX6_costOf_48 rfl ?_
      refine cp_X6_59 X eX6_costOf_49 (c_X6_left _ G b N w hN n wd hg sc kc bc bo ag bk st ims kf sg gr mk rs se tt tc ⟨m0, m1, m2, m3, m4, m5, m6, m7, m8, m9, m10⟩ x y hx hy h8 h9) (by decide) (by omega) m0 rfl (Nat.le_of_ble_eq_true rfl) ?_
      refine r_isub X eX6_costOf_52 ((mv gr (y - 1) x) - (mv gr y (x - 1))) rfl ?_
      refine cp_X6_65 X eX6_costOf_53 (c_X6_size _ G b N w ((mv gr (y - 1) x) - (mv gr y (x - 1)))) (by decide) rfl (Nat.le_of_ble_eq_true rfl) ?_
      refine r_iadd X eX6_costOf_56 (((exS (mv mk) y x) + (gapS wd (mv gr) y x)) + (iab ((mv gr (y - 1) x) - (mv gr y (x - 1))))) rfl ?_
      refine r_istore X eX6_costOf_57 (Nat.le_of_ble_eq_true rfl) (L2 := [some (.ref (b + 77)), some (.int (nI x)), some (.int (nI y)), some (.int (nI f)), some (.int (((exS (mv mk) y x) + (gapS wd (mv gr) y x)) + (iab ((mv gr (y - 1) x) - (mv gr y (x - 1))))))]) rfl ?_
      refine r_goto (tgt := 88) X eX6_costOf_59 (by decide) ?_
      refine r_iload X eX6_costOf_88 rfl ?_
      exact ret _ _ _ _ _ eX6_costOf_90 (⟨co_l (by omega) (by omega), rfl⟩)
  ·
    refine r_aload_n X eX6_costOf_11 rfl ?_
    refine r_iload_n X eX6_costOf_12 rfl ?_
    refine r_iload_n X eX6_costOf_13 rfl ?_
    refine cp_X6_84 X eX6_costOf_14 (c_X6_weight _ G b N w hN n wd hg sc kc bc bo ag bk st ims kf sg gr mk rs se tt tc ⟨m0, m1, m2, m3, m4, m5, m6, m7, m8, m9, m10⟩ x y hx hy h8 h9) (by decide) (by omega) m0 rfl (Nat.le_of_ble_eq_true rfl) ?_
    exact ret _ _ _ _ _ eX6_costOf_17 (⟨co_0 (by omega), rfl⟩)
set_option maxHeartbeats 4000000 in
set_option maxRecDepth 100000 in
theorem c_X6_nextFrom (l : Launch) (G : Gs) (b N : Nat) (w : Wd) (hN : 88 ≤ N) (n wd hg : Nat) (sc kc bc bo ag bk : Int32) (st ims kf sg gr mk rs se tt tc : Nat → Int32) (hm : mW G b w n wd hg sc kc bc bo ag bk st ims kf sg gr mk rs se tt tc) (f y : Nat) (hf : f < wd) (hy : y < hg) (h8 : wd ≤ 8) (h9 : hg ≤ 8) (lw : Nat) (hlw : lw < 2) (hst : st 130 = nI lw) : CI l yX6_nextFrom cX6_nextFrom 7 (some .int) 7 G b N w [.ref (b + 77), .int (nI f), .int (nI y)] (fun r w2 => r = nI (am (fun q => coS lw wd hg (mv gr) (mv mk) y q f + rs (8 * y + q)) (f - 1) (min (f + 1) (wd - 1) - (f - 1))) ∧ w2 = w) := by
  obtain ⟨m0, m1, m2, m3, m4, m5, m6, m7, m8, m9, m10⟩ := hm
  refine CI_of (L0 := [some (.ref (b + 77)), some (.int (nI f)), some (.int (nI y)), none, none, none, none]) (by decide) rfl (by simp [Value.category]) rfl (Nat.le_of_ble_eq_true rfl) rfl (fun κ X ret => ?_)
  refine r_bipush X eX6_nextFrom_0 ((-6 : Int32)) (by decide) ?_
  refine r_istore_n X eX6_nextFrom_2 (Nat.le_of_ble_eq_true rfl) (L2 := [some (.ref (b + 77)), some (.int (nI f)), some (.int (nI y)), some (.int ((-6 : Int32))), none, none, none]) rfl ?_
  refine r_iconst X eX6_nextFrom_3 ((0 : Int32)) (by decide) ?_
  refine r_istore X eX6_nextFrom_4 (Nat.le_of_ble_eq_true rfl) (L2 := [some (.ref (b + 77)), some (.int (nI f)), some (.int (nI y)), some (.int ((-6 : Int32))), some (.int ((0 : Int32))), none, none]) rfl ?_
  refine r_iload_n X eX6_nextFrom_6 rfl ?_
  refine r_if_le (tgt := 16) X eX6_nextFrom_7 (by decide) (nI_toInt (by omega)) (fun c_1 => ?_) (fun c_1 => ?_)
  ·
    refine r_iconst X eX6_nextFrom_16 (nI 0) (by decide) ?_
    refine r_top (y := nI (f - 1)) (congrArg nI (by omega)) ?_
    refine r_istore X eX6_nextFrom_17 (Nat.le_of_ble_eq_true rfl) (L2 := [some (.ref (b + 77)), some (.int (nI f)), some (.int (nI y)), some (.int ((-6 : Int32))), some (.int ((0 : Int32))), some (.int (nI (f - 1))), none]) rfl ?_
    have lp2 : ∀ (fu : Nat) (i : Nat) (v c : Int32), (f - 1 + i ≤ min (f + 1) (wd - 1) + 1) → ((i = 0 ∧ v = -6) ∨ (i ≠ 0 ∧ v = nI (am (fun q => coS lw wd hg (mv gr) (mv mk) y q f + rs (8 * y + q)) (f - 1) (i - 1)) ∧ c = (fun q => coS lw wd hg (mv gr) (mv mk) y q f + rs (8 * y + q)) (am (fun q => coS lw wd hg (mv gr) (mv mk) y q f + rs (8 * y + q)) (f - 1) (i - 1)))) → 20 - i < fu → V κ G b (N, 0, 0) w 19 [some (.ref (b + 77)), some (.int (nI f)), some (.int (nI y)), some (.int v), some (.int c), some (.int (nI (f - 1 + i))), none] [] := by
      intro fu
      induction fu with
      | zero => intro i v c hi hv hm; exact absurd hm (Nat.not_lt_zero _)
      | succ fu ih2 =>
        intro i v c hi hv hm
        refine r_iload X eX6_nextFrom_19 rfl ?_
        refine r_iload_n X eX6_nextFrom_21 rfl ?_
        refine r_iconst X eX6_nextFrom_22 (nI 1) (by decide) ?_
        refine r_iadd X eX6_nextFrom_23 (nI (f + 1)) (addN (by omega)) ?_
        refine r_icmp_gt (tgt := 82) X eX6_nextFrom_24 (by decide) (nI_toInt (by omega)) (nI_toInt (by omega)) (fun c_3 => ?_) (fun c_3 => ?_)
        ·
          refine r_iload_n X eX6_nextFrom_82 rfl ?_
          exact ret _ _ _ _ _ eX6_nextFrom_83 (⟨(hv.resolve_left (fun h => by omega)).2.1.trans (congrArg nI (by congr 1; omega)), rfl⟩)
        ·
          refine r_iload X eX6_nextFrom_27 rfl ?_
          refine r_aload_n X eX6_nextFrom_29 rfl ?_
          refine gf_X6_45 X eX6_nextFrom_30 (by omega) m0 ?_
          refine r_icmp_ge (tgt := 82) X eX6_nextFrom_33 (by decide) (nI_toInt (by omega)) (nI_toInt (by omega)) (fun c_4 => ?_) (fun c_4 => ?_)
          ·
            refine r_iload_n X eX6_nextFrom_82 rfl ?_
            exact ret _ _ _ _ _ eX6_nextFrom_83 (⟨(hv.resolve_left (fun h => by omega)).2.1.trans (congrArg nI (by congr 1; omega)), rfl⟩)
          ·
            refine r_aload_n X eX6_nextFrom_36 rfl ?_
            refine r_iload X eX6_nextFrom_37 rfl ?_
            refine r_iload_n X eX6_nextFrom_39 rfl ?_
            refine r_iload_n X eX6_nextFrom_40 rfl ?_
            refine cp_X6_87 X eX6_nextFrom_41 (c_X6_costOf _ G b N w hN n wd hg sc kc bc bo ag bk st ims kf sg gr mk rs se tt tc ⟨m0, m1, m2, m3, m4, m5, m6, m7, m8, m9, m10⟩ (f - 1 + i) y (by omega) (by omega) h8 h9 lw hlw hst f (by omega)) (by decide) (by omega) m0 rfl (Nat.le_of_ble_eq_true rfl) ?_
            refine r_aload_n X eX6_nextFrom_44 rfl ?_
            refine gf_X6_29 X eX6_nextFrom_45 (by omega) m0 ?_
            refine r_iload X eX6_nextFrom_48 rfl ?_
            refine r_iload_n X eX6_nextFrom_50 rfl ?_
            refine cp_X6_52 X eX6_nextFrom_51 (c_X6_at _ G b N w (f - 1 + i) y) (by decide) rfl (Nat.le_of_ble_eq_true rfl) ?_
            refine r_iald X eX6_nextFrom_54 (by omega) m7 (by omega) (by decide) ?_
            refine r_iadd X eX6_nextFrom_55 ((fun q => coS lw wd hg (mv gr) (mv mk) y q f + rs (8 * y + q)) (f - 1 + i)) rfl ?_
            refine r_istore X eX6_nextFrom_56 (Nat.le_of_ble_eq_true rfl) (L2 := [some (.ref (b + 77)), some (.int (nI f)), some (.int (nI y)), some (.int v), some (.int c), some (.int (nI (f - 1 + i))), some (.int ((fun q => coS lw wd hg (mv gr) (mv mk) y q f + rs (8 * y + q)) (f - 1 + i)))]) rfl ?_
            refine r_iload_n X eX6_nextFrom_58 rfl ?_
            refine r_if_lt (tgt := 69) X eX6_nextFrom_59 (by decide) rfl (fun c_5 => ?_) (fun c_5 => ?_)
            ·
              have hi0 : i = 0 := by
                rcases hv with h | h
                · exact h.1
                · exact absurd c_5 (by rw [h.2.1]; rw [nI_toInt (by have := am_le (fun q => coS lw wd hg (mv gr) (mv mk) y q f + rs (8 * y + q)) (f - 1) (i - 1); omega)]; omega)
              refine r_iload X eX6_nextFrom_69 rfl ?_
              refine r_istore_n X eX6_nextFrom_71 (Nat.le_of_ble_eq_true rfl) (L2 := [some (.ref (b + 77)), some (.int (nI f)), some (.int (nI y)), some (.int (nI (f - 1 + i))), some (.int c), some (.int (nI (f - 1 + i))), some (.int ((fun q => coS lw wd hg (mv gr) (mv mk) y q f + rs (8 * y + q)) (f - 1 + i)))]) rfl ?_
              refine r_iload X eX6_nextFrom_72 rfl ?_
              refine r_istore X eX6_nextFrom_74 (Nat.le_of_ble_eq_true rfl) (L2 := [some (.ref (b + 77)), some (.int (nI f)), some (.int (nI y)), some (.int (nI (f - 1 + i))), some (.int ((fun q => coS lw wd hg (mv gr) (mv mk) y q f + rs (8 * y + q)) (f - 1 + i))), some (.int (nI (f - 1 + i))), some (.int ((fun q => coS lw wd hg (mv gr) (mv mk) y q f + rs (8 * y + q)) (f - 1 + i)))]) rfl ?_
              refine r_iinc X eX6_nextFrom_76 rfl (nI (f - 1 + i + 1)) (inc_nI _) (L2 := [some (.ref (b + 77)), some (.int (nI f)), some (.int (nI y)), some (.int (nI (f - 1 + i))), some (.int ((fun q => coS lw wd hg (mv gr) (mv mk) y q f + rs (8 * y + q)) (f - 1 + i))), some (.int (nI (f - 1 + i + 1))), some (.int ((fun q => coS lw wd hg (mv gr) (mv mk) y q f + rs (8 * y + q)) (f - 1 + i)))]) rfl ?_
              refine r_goto (tgt := 19) X eX6_nextFrom_79 (by decide) ?_
              refine r_fg 6 (L2 := [some (.ref (b + 77)), some (.int (nI f)), some (.int (nI y)), some (.int (nI (f - 1 + i))), some (.int ((fun q => coS lw wd hg (mv gr) (mv mk) y q f + rs (8 * y + q)) (f - 1 + i))), some (.int (nI (f - 1 + i + 1))), none]) rfl ?_
              exact ih2 (i + 1) (nI (f - 1 + i)) ((fun q => coS lw wd hg (mv gr) (mv mk) y q f + rs (8 * y + q)) (f - 1 + i))  (by omega) (Or.inr ⟨by omega, by rw [show i = 0 by omega]; rfl, by rw [show i = 0 by omega]; rfl⟩)  (by omega)
            ·
              have hz := (hv.resolve_left (fun h => by rw [h.2] at c_5; exact absurd c_5 (by decide))).2
              have hi0 : i ≠ 0 := fun h => by
                rcases hv with q | q
                · rw [q.2] at c_5; exact absurd c_5 (by decide)
                · exact q.1 h
              refine r_iload X eX6_nextFrom_62 rfl ?_
              refine r_iload X eX6_nextFrom_64 rfl ?_
              refine r_icmp_ge (tgt := 76) X eX6_nextFrom_66 (by decide) rfl rfl (fun c_6 => ?_) (fun c_6 => ?_)
              ·
                refine r_iinc X eX6_nextFrom_76 rfl (nI (f - 1 + i + 1)) (inc_nI _) (L2 := [some (.ref (b + 77)), some (.int (nI f)), some (.int (nI y)), some (.int v), some (.int c), some (.int (nI (f - 1 + i + 1))), some (.int ((fun q => coS lw wd hg (mv gr) (mv mk) y q f + rs (8 * y + q)) (f - 1 + i)))]) rfl ?_
                refine r_goto (tgt := 19) X eX6_nextFrom_79 (by decide) ?_
                refine r_fg 6 (L2 := [some (.ref (b + 77)), some (.int (nI f)), some (.int (nI y)), some (.int v), some (.int c), some (.int (nI (f - 1 + i + 1))), none]) rfl ?_
                exact ih2 (i + 1) v c  (by omega) (Or.inr ⟨by omega, by rw [hz.1]; exact congrArg nI (amx_f2 (F := (fun q => coS lw wd hg (mv gr) (mv mk) y q f + rs (8 * y + q))) (by omega) ⟨rfl, hz.2⟩ c_6), by rw [hz.2]; exact congrArg (fun q => coS lw wd hg (mv gr) (mv mk) y q f + rs (8 * y + q)) (amx_f2 (F := (fun q => coS lw wd hg (mv gr) (mv mk) y q f + rs (8 * y + q))) (by omega) ⟨rfl, hz.2⟩ c_6)⟩)  (by omega)
              ·
                refine r_iload X eX6_nextFrom_69 rfl ?_
                refine r_istore_n X eX6_nextFrom_71 (Nat.le_of_ble_eq_true rfl) (L2 := [some (.ref (b + 77)), some (.int (nI f)), some (.int (nI y)), some (.int (nI (f - 1 + i))), some (.int c), some (.int (nI (f - 1 + i))), some (.int ((fun q => coS lw wd hg (mv gr) (mv mk) y q f + rs (8 * y + q)) (f - 1 + i)))]) rfl ?_
                refine r_iload X eX6_nextFrom_72 rfl ?_
                refine r_istore X eX6_nextFrom_74 (Nat.le_of_ble_eq_true rfl) (L2 := [some (.ref (b + 77)), some (.int (nI f)), some (.int (nI y)), some (.int (nI (f - 1 + i))), some (.int ((fun q => coS lw wd hg (mv gr) (mv mk) y q f + rs (8 * y + q)) (f - 1 + i))), some (.int (nI (f - 1 + i))), some (.int ((fun q => coS lw wd hg (mv gr) (mv mk) y q f + rs (8 * y + q)) (f - 1 + i)))]) rfl ?_
                refine r_iinc X eX6_nextFrom_76 rfl (nI (f - 1 + i + 1)) (inc_nI _) (L2 := [some (.ref (b + 77)), some (.int (nI f)), some (.int (nI y)), some (.int (nI (f - 1 + i))), some (.int ((fun q => coS lw wd hg (mv gr) (mv mk) y q f + rs (8 * y + q)) (f - 1 + i))), some (.int (nI (f - 1 + i + 1))), some (.int ((fun q => coS lw wd hg (mv gr) (mv mk) y q f + rs (8 * y + q)) (f - 1 + i)))]) rfl ?_
                refine r_goto (tgt := 19) X eX6_nextFrom_79 (by decide) ?_
                refine r_fg 6 (L2 := [some (.ref (b + 77)), some (.int (nI f)), some (.int (nI y)), some (.int (nI (f - 1 + i))), some (.int ((fun q => coS lw wd hg (mv gr) (mv mk) y q f + rs (8 * y + q)) (f - 1 + i))), some (.int (nI (f - 1 + i + 1))), none]) rfl ?_
                exact ih2 (i + 1) (nI (f - 1 + i)) ((fun q => coS lw wd hg (mv gr) (mv mk) y q f + rs (8 * y + q)) (f - 1 + i))  (by omega) (Or.inr ⟨by omega, congrArg nI (amx_t2 (F := (fun q => coS lw wd hg (mv gr) (mv mk) y q f + rs (8 * y + q))) (by omega) ⟨rfl, hz.2⟩ c_6), congrArg (fun q => coS lw wd hg (mv gr) (mv mk) y q f + rs (8 * y + q)) (amx_t2 (F := (fun q => coS lw wd hg (mv gr) (mv mk) y q f + rs (8 * y + q))) (by omega) ⟨rfl, hz.2⟩ c_6)⟩)  (by omega)
    exact lp2 _ 0 (-6) 0  (by omega) (Or.inl ⟨rfl, rfl⟩)  (Nat.lt_succ_self _)
  ·
    refine r_iload_n X eX6_nextFrom_10 rfl ?_
    refine r_iconst X eX6_nextFrom_11 (nI 1) (by decide) ?_
    refine r_isub X eX6_nextFrom_12 (nI (f - 1)) (pk_sub (by omega)) ?_
    refine r_goto (tgt := 17) X eX6_nextFrom_13 (by decide) ?_
    refine r_top (y := nI (f - 1)) (congrArg nI (by omega)) ?_
    refine r_istore X eX6_nextFrom_17 (Nat.le_of_ble_eq_true rfl) (L2 := [some (.ref (b + 77)), some (.int (nI f)), some (.int (nI y)), some (.int ((-6 : Int32))), some (.int ((0 : Int32))), some (.int (nI (f - 1))), none]) rfl ?_
    have lp7 : ∀ (fu : Nat) (i : Nat) (v c : Int32), (f - 1 + i ≤ min (f + 1) (wd - 1) + 1) → ((i = 0 ∧ v = -6) ∨ (i ≠ 0 ∧ v = nI (am (fun q => coS lw wd hg (mv gr) (mv mk) y q f + rs (8 * y + q)) (f - 1) (i - 1)) ∧ c = (fun q => coS lw wd hg (mv gr) (mv mk) y q f + rs (8 * y + q)) (am (fun q => coS lw wd hg (mv gr) (mv mk) y q f + rs (8 * y + q)) (f - 1) (i - 1)))) → 20 - i < fu → V κ G b (N, 0, 0) w 19 [some (.ref (b + 77)), some (.int (nI f)), some (.int (nI y)), some (.int v), some (.int c), some (.int (nI (f - 1 + i))), none] [] := by
      intro fu
      induction fu with
      | zero => intro i v c hi hv hm; exact absurd hm (Nat.not_lt_zero _)
      | succ fu ih7 =>
        intro i v c hi hv hm
        refine r_iload X eX6_nextFrom_19 rfl ?_
        refine r_iload_n X eX6_nextFrom_21 rfl ?_
        refine r_iconst X eX6_nextFrom_22 (nI 1) (by decide) ?_
        refine r_iadd X eX6_nextFrom_23 (nI (f + 1)) (addN (by omega)) ?_
        refine r_icmp_gt (tgt := 82) X eX6_nextFrom_24 (by decide) (nI_toInt (by omega)) (nI_toInt (by omega)) (fun c_8 => ?_) (fun c_8 => ?_)
        ·
          refine r_iload_n X eX6_nextFrom_82 rfl ?_
          exact ret _ _ _ _ _ eX6_nextFrom_83 (⟨(hv.resolve_left (fun h => by omega)).2.1.trans (congrArg nI (by congr 1; omega)), rfl⟩)
        ·
          refine r_iload X eX6_nextFrom_27 rfl ?_
          refine r_aload_n X eX6_nextFrom_29 rfl ?_
          refine gf_X6_45 X eX6_nextFrom_30 (by omega) m0 ?_
          refine r_icmp_ge (tgt := 82) X eX6_nextFrom_33 (by decide) (nI_toInt (by omega)) (nI_toInt (by omega)) (fun c_9 => ?_) (fun c_9 => ?_)
          ·
            refine r_iload_n X eX6_nextFrom_82 rfl ?_
            exact ret _ _ _ _ _ eX6_nextFrom_83 (⟨(hv.resolve_left (fun h => by omega)).2.1.trans (congrArg nI (by congr 1; omega)), rfl⟩)
          ·
            refine r_aload_n X eX6_nextFrom_36 rfl ?_
            refine r_iload X eX6_nextFrom_37 rfl ?_
            refine r_iload_n X eX6_nextFrom_39 rfl ?_
            refine r_iload_n X eX6_nextFrom_40 rfl ?_
            refine cp_X6_87 X eX6_nextFrom_41 (c_X6_costOf _ G b N w hN n wd hg sc kc bc bo ag bk st ims kf sg gr mk rs se tt tc ⟨m0, m1, m2, m3, m4, m5, m6, m7, m8, m9, m10⟩ (f - 1 + i) y (by omega) (by omega) h8 h9 lw hlw hst f (by omega)) (by decide) (by omega) m0 rfl (Nat.le_of_ble_eq_true rfl) ?_
            refine r_aload_n X eX6_nextFrom_44 rfl ?_
            refine gf_X6_29 X eX6_nextFrom_45 (by omega) m0 ?_
            refine r_iload X eX6_nextFrom_48 rfl ?_
            refine r_iload_n X eX6_nextFrom_50 rfl ?_
            refine cp_X6_52 X eX6_nextFrom_51 (c_X6_at _ G b N w (f - 1 + i) y) (by decide) rfl (Nat.le_of_ble_eq_true rfl) ?_
            refine r_iald X eX6_nextFrom_54 (by omega) m7 (by omega) (by decide) ?_
            refine r_iadd X eX6_nextFrom_55 ((fun q => coS lw wd hg (mv gr) (mv mk) y q f + rs (8 * y + q)) (f - 1 + i)) rfl ?_
            refine r_istore X eX6_nextFrom_56 (Nat.le_of_ble_eq_true rfl) (L2 := [some (.ref (b + 77)), some (.int (nI f)), some (.int (nI y)), some (.int v), some (.int c), some (.int (nI (f - 1 + i))), some (.int ((fun q => coS lw wd hg (mv gr) (mv mk) y q f + rs (8 * y + q)) (f - 1 + i)))]) rfl ?_
            refine r_iload_n X eX6_nextFrom_58 rfl ?_
            refine r_if_lt (tgt := 69) X eX6_nextFrom_59 (by decide) rfl (fun c_10 => ?_) (fun c_10 => ?_)
            ·
              have hi0 : i = 0 := by
                rcases hv with h | h
                · exact h.1
                · exact absurd c_10 (by rw [h.2.1]; rw [nI_toInt (by have := am_le (fun q => coS lw wd hg (mv gr) (mv mk) y q f + rs (8 * y + q)) (f - 1) (i - 1); omega)]; omega)
              refine r_iload X eX6_nextFrom_69 rfl ?_
              refine r_istore_n X eX6_nextFrom_71 (Nat.le_of_ble_eq_true rfl) (L2 := [some (.ref (b + 77)), some (.int (nI f)), some (.int (nI y)), some (.int (nI (f - 1 + i))), some (.int c), some (.int (nI (f - 1 + i))), some (.int ((fun q => coS lw wd hg (mv gr) (mv mk) y q f + rs (8 * y + q)) (f - 1 + i)))]) rfl ?_
              refine r_iload X eX6_nextFrom_72 rfl ?_
              refine r_istore X eX6_nextFrom_74 (Nat.le_of_ble_eq_true rfl) (L2 := [some (.ref (b + 77)), some (.int (nI f)), some (.int (nI y)), some (.int (nI (f - 1 + i))), some (.int ((fun q => coS lw wd hg (mv gr) (mv mk) y q f + rs (8 * y + q)) (f - 1 + i))), some (.int (nI (f - 1 + i))), some (.int ((fun q => coS lw wd hg (mv gr) (mv mk) y q f + rs (8 * y + q)) (f - 1 + i)))]) rfl ?_
              refine r_iinc X eX6_nextFrom_76 rfl (nI (f - 1 + i + 1)) (inc_nI _) (L2 := [some (.ref (b + 77)), some (.int (nI f)), some (.int (nI y)), some (.int (nI (f - 1 + i))), some (.int ((fun q => coS lw wd hg (mv gr) (mv mk) y q f + rs (8 * y + q)) (f - 1 + i))), some (.int (nI (f - 1 + i + 1))), some (.int ((fun q => coS lw wd hg (mv gr) (mv mk) y q f + rs (8 * y + q)) (f - 1 + i)))]) rfl ?_
              refine r_goto (tgt := 19) X eX6_nextFrom_79 (by decide) ?_
              refine r_fg 6 (L2 := [some (.ref (b + 77)), some (.int (nI f)), some (.int (nI y)), some (.int (nI (f - 1 + i))), some (.int ((fun q => coS lw wd hg (mv gr) (mv mk) y q f + rs (8 * y + q)) (f - 1 + i))), some (.int (nI (f - 1 + i + 1))), none]) rfl ?_
              exact ih7 (i + 1) (nI (f - 1 + i)) ((fun q => coS lw wd hg (mv gr) (mv mk) y q f + rs (8 * y + q)) (f - 1 + i))  (by omega) (Or.inr ⟨by omega, by rw [show i = 0 by omega]; rfl, by rw [show i = 0 by omega]; rfl⟩)  (by omega)
            ·
              have hz := (hv.resolve_left (fun h => by rw [h.2] at c_10; exact absurd c_10 (by decide))).2
              have hi0 : i ≠ 0 := fun h => by
                rcases hv with q | q
                · rw [q.2] at c_10; exact absurd c_10 (by decide)
                · exact q.1 h
              refine r_iload X eX6_nextFrom_62 rfl ?_
              refine r_iload X eX6_nextFrom_64 rfl ?_
              refine r_icmp_ge (tgt := 76) X eX6_nextFrom_66 (by decide) rfl rfl (fun c_11 => ?_) (fun c_11 => ?_)
              ·
                refine r_iinc X eX6_nextFrom_76 rfl (nI (f - 1 + i + 1)) (inc_nI _) (L2 := [some (.ref (b + 77)), some (.int (nI f)), some (.int (nI y)), some (.int v), some (.int c), some (.int (nI (f - 1 + i + 1))), some (.int ((fun q => coS lw wd hg (mv gr) (mv mk) y q f + rs (8 * y + q)) (f - 1 + i)))]) rfl ?_
                refine r_goto (tgt := 19) X eX6_nextFrom_79 (by decide) ?_
                refine r_fg 6 (L2 := [some (.ref (b + 77)), some (.int (nI f)), some (.int (nI y)), some (.int v), some (.int c), some (.int (nI (f - 1 + i + 1))), none]) rfl ?_
                exact ih7 (i + 1) v c  (by omega) (Or.inr ⟨by omega, by rw [hz.1]; exact congrArg nI (amx_f2 (F := (fun q => coS lw wd hg (mv gr) (mv mk) y q f + rs (8 * y + q))) (by omega) ⟨rfl, hz.2⟩ c_11), by rw [hz.2]; exact congrArg (fun q => coS lw wd hg (mv gr) (mv mk) y q f + rs (8 * y + q)) (amx_f2 (F := (fun q => coS lw wd hg (mv gr) (mv mk) y q f + rs (8 * y + q))) (by omega) ⟨rfl, hz.2⟩ c_11)⟩)  (by omega)
              ·
                refine r_iload X eX6_nextFrom_69 rfl ?_
                refine r_istore_n X eX6_nextFrom_71 (Nat.le_of_ble_eq_true rfl) (L2 := [some (.ref (b + 77)), some (.int (nI f)), some (.int (nI y)), some (.int (nI (f - 1 + i))), some (.int c), some (.int (nI (f - 1 + i))), some (.int ((fun q => coS lw wd hg (mv gr) (mv mk) y q f + rs (8 * y + q)) (f - 1 + i)))]) rfl ?_
                refine r_iload X eX6_nextFrom_72 rfl ?_
                refine r_istore X eX6_nextFrom_74 (Nat.le_of_ble_eq_true rfl) (L2 := [some (.ref (b + 77)), some (.int (nI f)), some (.int (nI y)), some (.int (nI (f - 1 + i))), some (.int ((fun q => coS lw wd hg (mv gr) (mv mk) y q f + rs (8 * y + q)) (f - 1 + i))), some (.int (nI (f - 1 + i))), some (.int ((fun q => coS lw wd hg (mv gr) (mv mk) y q f + rs (8 * y + q)) (f - 1 + i)))]) rfl ?_
                refine r_iinc X eX6_nextFrom_76 rfl (nI (f - 1 + i + 1)) (inc_nI _) (L2 := [some (.ref (b + 77)), some (.int (nI f)), some (.int (nI y)), some (.int (nI (f - 1 + i))), some (.int ((fun q => coS lw wd hg (mv gr) (mv mk) y q f + rs (8 * y + q)) (f - 1 + i))), some (.int (nI (f - 1 + i + 1))), some (.int ((fun q => coS lw wd hg (mv gr) (mv mk) y q f + rs (8 * y + q)) (f - 1 + i)))]) rfl ?_
                refine r_goto (tgt := 19) X eX6_nextFrom_79 (by decide) ?_
                refine r_fg 6 (L2 := [some (.ref (b + 77)), some (.int (nI f)), some (.int (nI y)), some (.int (nI (f - 1 + i))), some (.int ((fun q => coS lw wd hg (mv gr) (mv mk) y q f + rs (8 * y + q)) (f - 1 + i))), some (.int (nI (f - 1 + i + 1))), none]) rfl ?_
                exact ih7 (i + 1) (nI (f - 1 + i)) ((fun q => coS lw wd hg (mv gr) (mv mk) y q f + rs (8 * y + q)) (f - 1 + i))  (by omega) (Or.inr ⟨by omega, congrArg nI (amx_t2 (F := (fun q => coS lw wd hg (mv gr) (mv mk) y q f + rs (8 * y + q))) (by omega) ⟨rfl, hz.2⟩ c_11), congrArg (fun q => coS lw wd hg (mv gr) (mv mk) y q f + rs (8 * y + q)) (amx_t2 (F := (fun q => coS lw wd hg (mv gr) (mv mk) y q f + rs (8 * y + q))) (by omega) ⟨rfl, hz.2⟩ c_11)⟩)  (by omega)
    exact lp7 _ 0 (-6) 0  (by omega) (Or.inl ⟨rfl, rfl⟩)  (Nat.lt_succ_self _)
