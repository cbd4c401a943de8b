set_option maxHeartbeats 4000000 in
set_option maxRecDepth 100000 in
theorem c_X6_layWay (l : Launch) (G : Gs) (b N : Nat) (w : Wd) (hN : 88 ≤ N) (n : Nat) (P : Pc) (sc kc bc bo ag bk : Int32) (st ims kf sg gr mk rs se tt tc : Nat → Int32) (hm : mW G b w n P.1 P.2.1 sc kc bc bo ag bk st ims kf sg gr mk rs se tt tc) (hP : okPc P) (lw : Nat) (hlw : lw < 2) (hst : st 130 = nI lw) (hag : agG P 0 gr mk) (way : Nat) (hw : way < 2) : CV l yX6_layWay cX6_layWay 2 9 G b N w [.ref (b + 77), .int (nI way)] (fun w2 => ∃ gr2 mk2 rs2 se2, mW G b w2 n (nbP P way) (nlP P way) (tA lw P way) kc bc bo ag bk st ims kf sg gr2 mk2 rs2 se2 tt tc ∧ agG P way gr2 mk2 ∧ okP se2 (sA lw P way) (nlP P way) (nbP P way) ∧ ∀ j, (j < 77 ∨ 88 ≤ j) → w2 j = w j) := by
  obtain ⟨m0, m1, m2, m3, m4, m5, m6, m7, m8, m9, m10⟩ := hm
  have hP4 := id hP
  obtain ⟨o1, o2, o3, o4⟩ := hP4
  refine CV_of (L0 := [some (.ref (b + 77)), some (.int (nI way))]) (by decide) rfl (by simp [Value.category]) rfl (Nat.le_of_ble_eq_true rfl) (fun κ X ret => ?_)
  have fr_w : ∀ j, (j < 77 ∨ 88 ≤ j) → w j = w j := fun _ _ => rfl
  refine r_iload_n X eX6_layWay_0 rfl ?_
  refine r_iconst X eX6_layWay_1 (nI 1) (by decide) ?_
  refine r_icmp_ne (tgt := 9) X eX6_layWay_2 (by decide) (nI_toInt (by omega)) (nI_toInt (by omega)) (fun c_1 => ?_) (fun c_1 => ?_)
  ·
    obtain rfl : way = 0 := by omega
    refine r_aload_n X eX6_layWay_9 rfl ?_
    refine cv_X6_100 X eX6_layWay_10 (c_X6_laySeam _ G b N w hN n P.1 P.2.1 sc kc bc bo ag bk st ims kf sg gr mk rs se tt tc ⟨m0, m1, m2, m3, m4, m5, m6, m7, m8, m9, m10⟩ (by omega) (by omega) (by omega) (by omega) lw hlw hst) (by decide) (by omega) m0 rfl (Nat.le_of_ble_eq_true rfl) (fun w2 hp2 => ?_)
    obtain ⟨rs2, se2, ⟨y0L, y1L, y2L, y3L, y4L, y5L, y6L, y7L, y8L, y9L, y10L⟩, hok, gL⟩ := hp2
    rw [agG_t0 (lw := lw) hP hag] at y0L
    have m3_w2 : w2 77 = .inr (6, [.ref (b + 78), .ref (b + 79), .ref (b + 80), .ref (b + 81), .int (nI n), .ref (b + 82), .ref (b + 83), .int (nI P.1), .int (nI P.2.1), .ref (b + 84), .ref (b + 85), .int (tA lw P 0), .int kc, .int bc, .int bo, .int ag, .int bk, .ref (b + 86), .ref (b + 87)]) := y0L
    have m4_w2 : w2 78 = aI G 131 st := y1L
    have m5_w2 : w2 79 = aI G 262 ims := y2L
    have m6_w2 : w2 80 = aZ G 2 kf := y3L
    have m7_w2 : w2 81 = aI G 80 sg := y4L
    have m8_w2 : w2 82 = aI G 64 gr := y5L
    have m9_w2 : w2 83 = aI G 64 mk := y6L
    have m10_w2 : w2 84 = aI G 64 rs2 := y7L
    have m11_w2 : w2 85 = aI G 8 se2 := y8L
    have m12_w2 : w2 86 = aI G 6272 tt := y9L
    have m13_w2 : w2 87 = aI G 49 tc := y10L
    have fr_w2 : ∀ j, (j < 77 ∨ 88 ≤ j) → w2 j = w j := fun j hj => (gL j (by omega)).trans (fr_w j hj)
    exact ret _ _ _ _ eX6_layWay_13 (⟨_, _, rs2, se2, ⟨m3_w2, m4_w2, m5_w2, m6_w2, m7_w2, m8_w2, m9_w2, m10_w2, m11_w2, m12_w2, m13_w2⟩, hag, fun j hj => by rw [← agG_s0 hP hag]; exact hok j hj, fr_w2⟩)
  ·
    obtain rfl : way = 1 := by omega
    refine r_aload_n X eX6_layWay_5 rfl ?_
    refine cv_X6_97 X eX6_layWay_6 (c_X6_turn _ G b N w hN n P.1 P.2.1 sc kc bc bo ag bk st ims kf sg gr mk rs se tt tc ⟨m0, m1, m2, m3, m4, m5, m6, m7, m8, m9, m10⟩ ) (by decide) (by omega) m0 rfl (Nat.le_of_ble_eq_true rfl) (fun w14 hp14 => ?_)
    obtain ⟨gr2, mk2, ⟨y0T, y1T, y2T, y3T, y4T, y5T, y6T, y7T, y8T, y9T, y10T⟩, hT, gT⟩ := hp14
    have m15_w14 : w14 77 = .inr (6, [.ref (b + 78), .ref (b + 79), .ref (b + 80), .ref (b + 81), .int (nI n), .ref (b + 82), .ref (b + 83), .int (nI P.2.1), .int (nI P.1), .ref (b + 84), .ref (b + 85), .int sc, .int kc, .int bc, .int bo, .int ag, .int bk, .ref (b + 86), .ref (b + 87)]) := y0T
    have m16_w14 : w14 78 = aI G 131 st := y1T
    have m17_w14 : w14 79 = aI G 262 ims := y2T
    have m18_w14 : w14 80 = aZ G 2 kf := y3T
    have m19_w14 : w14 81 = aI G 80 sg := y4T
    have m20_w14 : w14 82 = aI G 64 gr2 := y5T
    have m21_w14 : w14 83 = aI G 64 mk2 := y6T
    have m22_w14 : w14 84 = aI G 64 rs := y7T
    have m23_w14 : w14 85 = aI G 8 se := y8T
    have m24_w14 : w14 86 = aI G 6272 tt := y9T
    have m25_w14 : w14 87 = aI G 49 tc := y10T
    have fr_w14 : ∀ j, (j < 77 ∨ 88 ≤ j) → w14 j = w j := fun j hj => (gT j (by omega)).trans (fr_w j hj)
    have hag2 := agG_turn hP hag hT
    refine r_aload_n X eX6_layWay_9 rfl ?_
    refine cv_X6_100 X eX6_layWay_10 (c_X6_laySeam _ G b N w14 hN n P.2.1 P.1 sc kc bc bo ag bk st ims kf sg gr2 mk2 rs se tt tc ⟨m15_w14, m16_w14, m17_w14, m18_w14, m19_w14, m20_w14, m21_w14, m22_w14, m23_w14, m24_w14, m25_w14⟩ (by omega) (by omega) (by omega) (by omega) lw hlw hst) (by decide) (by omega) m15_w14 rfl (Nat.le_of_ble_eq_true rfl) (fun w26 hp26 => ?_)
    obtain ⟨rs2, se2, ⟨y0L, y1L, y2L, y3L, y4L, y5L, y6L, y7L, y8L, y9L, y10L⟩, hok, gL⟩ := hp26
    rw [agG_t1 (lw := lw) hP hag2] at y0L
    have m27_w26 : w26 77 = .inr (6, [.ref (b + 78), .ref (b + 79), .ref (b + 80), .ref (b + 81), .int (nI n), .ref (b + 82), .ref (b + 83), .int (nI P.2.1), .int (nI P.1), .ref (b + 84), .ref (b + 85), .int (tA lw P 1), .int kc, .int bc, .int bo, .int ag, .int bk, .ref (b + 86), .ref (b + 87)]) := y0L
    have m28_w26 : w26 78 = aI G 131 st := y1L
    have m29_w26 : w26 79 = aI G 262 ims := y2L
    have m30_w26 : w26 80 = aZ G 2 kf := y3L
    have m31_w26 : w26 81 = aI G 80 sg := y4L
    have m32_w26 : w26 82 = aI G 64 gr2 := y5L
    have m33_w26 : w26 83 = aI G 64 mk2 := y6L
    have m34_w26 : w26 84 = aI G 64 rs2 := y7L
    have m35_w26 : w26 85 = aI G 8 se2 := y8L
    have m36_w26 : w26 86 = aI G 6272 tt := y9L
    have m37_w26 : w26 87 = aI G 49 tc := y10L
    have fr_w26 : ∀ j, (j < 77 ∨ 88 ≤ j) → w26 j = w j := fun j hj => (gL j (by omega)).trans (fr_w14 j hj)
    exact ret _ _ _ _ eX6_layWay_13 (⟨_, _, rs2, se2, ⟨m27_w26, m28_w26, m29_w26, m30_w26, m31_w26, m32_w26, m33_w26, m34_w26, m35_w26, m36_w26, m37_w26⟩, hag2, fun j hj => by rw [← agG_s1 hP hag2]; exact hok j hj, fr_w26⟩)
set_option maxHeartbeats 4000000 in
set_option maxRecDepth 100000 in
theorem c_X6_leaveWay (l : Launch) (G : Gs) (b N : Nat) (w : Wd) (hN : 88 ≤ N) (n : Nat) (P : Pc) (way : Nat) (sc kc bc bo ag bk : Int32) (st ims kf sg gr mk rs se tt tc : Nat → Int32) (hm : mW G b w n (nbP P way) (nlP P way) sc kc bc bo ag bk st ims kf sg gr mk rs se tt tc) (hw : way < 2) (hag : agG P way gr mk) (h8 : P.1 ≤ 8) (h9 : P.2.1 ≤ 8) : CV l yX6_leaveWay cX6_leaveWay 2 2 G b N w [.ref (b + 77), .int (nI way)] (fun w2 => ∃ gr2 mk2, mW G b w2 n P.1 P.2.1 sc kc bc bo ag bk st ims kf sg gr2 mk2 rs se tt tc ∧ agG P 0 gr2 mk2 ∧ ∀ j, (j < 77 ∨ 88 ≤ j) → w2 j = w j) := by
  obtain ⟨m0, m1, m2, m3, m4, m5, m6, m7, m8, m9, m10⟩ := hm
  refine CV_of (L0 := [some (.ref (b + 77)), some (.int (nI way))]) (by decide) rfl (by simp [Value.category]) rfl (Nat.le_of_ble_eq_true rfl) (fun κ X ret => ?_)
  have fr_w : ∀ j, (j < 77 ∨ 88 ≤ j) → w j = w j := fun _ _ => rfl
  refine r_iload_n X eX6_leaveWay_0 rfl ?_
  refine r_iconst X eX6_leaveWay_1 (nI 1) (by decide) ?_
  refine r_icmp_ne (tgt := 9) X eX6_leaveWay_2 (by decide) (nI_toInt (by omega)) (nI_toInt (by omega)) (fun c_1 => ?_) (fun c_1 => ?_)
  ·
    obtain rfl : way = 0 := by omega
    exact ret _ _ _ _ eX6_leaveWay_9 (⟨_, _, ⟨m0, m1, m2, m3, m4, m5, m6, m7, m8, m9, m10⟩, hag, fr_w⟩)
  ·
    obtain rfl : way = 1 := by omega
    refine r_aload_n X eX6_leaveWay_5 rfl ?_
    refine cv_X6_97 X eX6_leaveWay_6 (c_X6_turn _ G b N w hN n (nbP P 1) (nlP P 1) sc kc bc bo ag bk st ims kf sg gr mk rs se tt tc ⟨m0, m1, m2, m3, m4, m5, m6, m7, m8, m9, m10⟩ ) (by decide) (by omega) m0 rfl (Nat.le_of_ble_eq_true rfl) (fun w2 hp2 => ?_)
    obtain ⟨gr2, mk2, ⟨y0T, y1T, y2T, y3T, y4T, y5T, y6T, y7T, y8T, y9T, y10T⟩, hT, gT⟩ := hp2
    have m3_w2 : w2 77 = .inr (6, [.ref (b + 78), .ref (b + 79), .ref (b + 80), .ref (b + 81), .int (nI n), .ref (b + 82), .ref (b + 83), .int (nI (nlP P 1)), .int (nI (nbP P 1)), .ref (b + 84), .ref (b + 85), .int sc, .int kc, .int bc, .int bo, .int ag, .int bk, .ref (b + 86), .ref (b + 87)]) := y0T
    have m4_w2 : w2 78 = aI G 131 st := y1T
    have m5_w2 : w2 79 = aI G 262 ims := y2T
    have m6_w2 : w2 80 = aZ G 2 kf := y3T
    have m7_w2 : w2 81 = aI G 80 sg := y4T
    have m8_w2 : w2 82 = aI G 64 gr2 := y5T
    have m9_w2 : w2 83 = aI G 64 mk2 := y6T
    have m10_w2 : w2 84 = aI G 64 rs := y7T
    have m11_w2 : w2 85 = aI G 8 se := y8T
    have m12_w2 : w2 86 = aI G 6272 tt := y9T
    have m13_w2 : w2 87 = aI G 49 tc := y10T
    have fr_w2 : ∀ j, (j < 77 ∨ 88 ≤ j) → w2 j = w j := fun j hj => (gT j (by omega)).trans (fr_w j hj)
    exact ret _ _ _ _ eX6_leaveWay_9 (⟨_, _, ⟨m3_w2, m4_w2, m5_w2, m6_w2, m7_w2, m8_w2, m9_w2, m10_w2, m11_w2, m12_w2, m13_w2⟩, agG_back h8 h9 hag hT, fr_w2⟩)
set_option maxHeartbeats 4000000 in
set_option maxRecDepth 100000 in
theorem c_X6_cutWay (l : Launch) (G : Gs) (b N : Nat) (w : Wd) (hN : 88 ≤ N) (n : Nat) (P : Pc) (sc kc bc bo ag bk : Int32) (st ims kf sg gr mk rs se tt tc : Nat → Int32) (hm : mW G b w n P.1 P.2.1 sc kc bc bo ag bk st ims kf sg gr mk rs se tt tc) (hP : okPc P) (lw : Nat) (hlw : lw < 2) (hst : st 130 = nI lw) (hag : agG P 0 gr mk) (way : Nat) (hw : way < 2) : CI l yX6_cutWay cX6_cutWay 2 (some .int) 10 G b N w [.ref (b + 77), .int (nI way)] (fun r w2 => r = tA lw P way ∧ (∃ gr2 mk2 rs2 se2, mW G b w2 n ((cutP lw P way).1) ((cutP lw P way).2.1) (tA lw P way) (kc + kA lw P way) bc bo ag bk st ims kf sg gr2 mk2 rs2 se2 tt tc ∧ agG (cutP lw P way) 0 gr2 mk2 ∧ ∀ j, (j < 77 ∨ 88 ≤ j) → w2 j = w j)) := by
  obtain ⟨m0, m1, m2, m3, m4, m5, m6, m7, m8, m9, m10⟩ := hm
  have hP4 := id hP
  obtain ⟨o1, o2, o3, o4⟩ := hP4
  have hpos := hP.pos way
  refine CI_of (L0 := [some (.ref (b + 77)), some (.int (nI way))]) (by decide) rfl (by simp [Value.category]) rfl (Nat.le_of_ble_eq_true rfl) rfl (fun κ X ret => ?_)
  have fr_w : ∀ j, (j < 77 ∨ 88 ≤ j) → w j = w j := fun _ _ => rfl
  refine r_aload_n X eX6_cutWay_0 rfl ?_
  refine r_iload_n X eX6_cutWay_1 rfl ?_
  refine cv_X6_110 X eX6_cutWay_2 (c_X6_layWay _ G b N w hN n P sc kc bc bo ag bk st ims kf sg gr mk rs se tt tc ⟨m0, m1, m2, m3, m4, m5, m6, m7, m8, m9, m10⟩ hP lw hlw hst hag way hw) (by decide) (by omega) m0 rfl (Nat.le_of_ble_eq_true rfl) (fun w1 hp1 => ?_)
  obtain ⟨gr1, mk1, rs1, se1, ⟨y0W, y1W, y2W, y3W, y4W, y5W, y6W, y7W, y8W, y9W, y10W⟩, hag1, hok1, gW⟩ := hp1
  have m2_w1 : w1 77 = .inr (6, [.ref (b + 78), .ref (b + 79), .ref (b + 80), .ref (b + 81), .int (nI n), .ref (b + 82), .ref (b + 83), .int (nI (nbP P way)), .int (nI (nlP P way)), .ref (b + 84), .ref (b + 85), .int (tA lw P way), .int kc, .int bc, .int bo, .int ag, .int bk, .ref (b + 86), .ref (b + 87)]) := y0W
  have m3_w1 : w1 78 = aI G 131 st := y1W
  have m4_w1 : w1 79 = aI G 262 ims := y2W
  have m5_w1 : w1 80 = aZ G 2 kf := y3W
  have m6_w1 : w1 81 = aI G 80 sg := y4W
  have m7_w1 : w1 82 = aI G 64 gr1 := y5W
  have m8_w1 : w1 83 = aI G 64 mk1 := y6W
  have m9_w1 : w1 84 = aI G 64 rs1 := y7W
  have m10_w1 : w1 85 = aI G 8 se1 := y8W
  have m11_w1 : w1 86 = aI G 6272 tt := y9W
  have m12_w1 : w1 87 = aI G 49 tc := y10W
  have fr_w1 : ∀ j, (j < 77 ∨ 88 ≤ j) → w1 j = w j := fun j hj => (gW j (by omega)).trans (fr_w j hj)
  refine r_aload_n X eX6_cutWay_5 rfl ?_
  refine cv_X6_114 X eX6_cutWay_6 (c_X6_cutSeam _ G b N w1 hN n (nbP P way) (nlP P way) (tA lw P way) kc bc bo ag bk st ims kf sg gr1 mk1 rs1 se1 tt tc ⟨m2_w1, m3_w1, m4_w1, m5_w1, m6_w1, m7_w1, m8_w1, m9_w1, m10_w1, m11_w1, m12_w1⟩ (by omega) (by omega) (by omega) (by omega) (sA lw P way) hok1) (by decide) (by omega) m2_w1 rfl (Nat.le_of_ble_eq_true rfl) (fun w13 hp13 => ?_)
  obtain ⟨gr2, mk2, ⟨y0C, y1C, y2C, y3C, y4C, y5C, y6C, y7C, y8C, y9C, y10C⟩, hcu, gC⟩ := hp13
  rw [agG_k (lw := lw) hP hag1] at y0C
  rw [← nb_cut (lw := lw) hw, ← nl_cut (lw := lw) hw] at y0C
  have m14_w13 : w13 77 = .inr (6, [.ref (b + 78), .ref (b + 79), .ref (b + 80), .ref (b + 81), .int (nI n), .ref (b + 82), .ref (b + 83), .int (nI (nbP (cutP lw P way) way)), .int (nI (nlP (cutP lw P way) way)), .ref (b + 84), .ref (b + 85), .int (tA lw P way), .int (kc + kA lw P way), .int bc, .int bo, .int ag, .int bk, .ref (b + 86), .ref (b + 87)]) := y0C
  have m15_w13 : w13 78 = aI G 131 st := y1C
  have m16_w13 : w13 79 = aI G 262 ims := y2C
  have m17_w13 : w13 80 = aZ G 2 kf := y3C
  have m18_w13 : w13 81 = aI G 80 sg := y4C
  have m19_w13 : w13 82 = aI G 64 gr2 := y5C
  have m20_w13 : w13 83 = aI G 64 mk2 := y6C
  have m21_w13 : w13 84 = aI G 64 rs1 := y7C
  have m22_w13 : w13 85 = aI G 8 se1 := y8C
  have m23_w13 : w13 86 = aI G 6272 tt := y9C
  have m24_w13 : w13 87 = aI G 49 tc := y10C
  have fr_w13 : ∀ j, (j < 77 ∨ 88 ≤ j) → w13 j = w j := fun j hj => (gC j (by omega)).trans (fr_w1 j hj)
  have hag2 := agG_cut hw hP hag1 hcu
  refine r_aload_n X eX6_cutWay_9 rfl ?_
  refine r_iload_n X eX6_cutWay_10 rfl ?_
  refine cv_X6_117 X eX6_cutWay_11 (c_X6_leaveWay _ G b N w13 hN n (cutP lw P way) way (tA lw P way) (kc + kA lw P way) bc bo ag bk st ims kf sg gr2 mk2 rs1 se1 tt tc ⟨m14_w13, m15_w13, m16_w13, m17_w13, m18_w13, m19_w13, m20_w13, m21_w13, m22_w13, m23_w13, m24_w13⟩ hw hag2 (show P.1 - (1 - way) ≤ 8 by omega) (show P.2.1 - way ≤ 8 by omega)) (by decide) (by omega) m14_w13 rfl (Nat.le_of_ble_eq_true rfl) (fun w25 hp25 => ?_)
  obtain ⟨gr3, mk3, ⟨y0E, y1E, y2E, y3E, y4E, y5E, y6E, y7E, y8E, y9E, y10E⟩, hag3, gE⟩ := hp25
  have m26_w25 : w25 77 = .inr (6, [.ref (b + 78), .ref (b + 79), .ref (b + 80), .ref (b + 81), .int (nI n), .ref (b + 82), .ref (b + 83), .int (nI ((cutP lw P way).1)), .int (nI ((cutP lw P way).2.1)), .ref (b + 84), .ref (b + 85), .int (tA lw P way), .int (kc + kA lw P way), .int bc, .int bo, .int ag, .int bk, .ref (b + 86), .ref (b + 87)]) := y0E
  have m27_w25 : w25 78 = aI G 131 st := y1E
  have m28_w25 : w25 79 = aI G 262 ims := y2E
  have m29_w25 : w25 80 = aZ G 2 kf := y3E
  have m30_w25 : w25 81 = aI G 80 sg := y4E
  have m31_w25 : w25 82 = aI G 64 gr3 := y5E
  have m32_w25 : w25 83 = aI G 64 mk3 := y6E
  have m33_w25 : w25 84 = aI G 64 rs1 := y7E
  have m34_w25 : w25 85 = aI G 8 se1 := y8E
  have m35_w25 : w25 86 = aI G 6272 tt := y9E
  have m36_w25 : w25 87 = aI G 49 tc := y10E
  have fr_w25 : ∀ j, (j < 77 ∨ 88 ≤ j) → w25 j = w j := fun j hj => (gE j (by omega)).trans (fr_w13 j hj)
  refine r_aload_n X eX6_cutWay_14 rfl ?_
  refine gf_X6_94 X eX6_cutWay_15 (by omega) m26_w25 ?_
  exact ret _ _ _ _ _ eX6_cutWay_18 (⟨rfl, gr3, mk3, rs1, se1, ⟨m26_w25, m27_w25, m28_w25, m29_w25, m30_w25, m31_w25, m32_w25, m33_w25, m34_w25, m35_w25, m36_w25⟩, hag3, fr_w25⟩)
