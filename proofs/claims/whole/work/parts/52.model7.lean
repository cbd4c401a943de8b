set_option maxHeartbeats 4000000 in
set_option maxRecDepth 100000 in
theorem c_X6_layPlace (l : Launch) (G : Gs) (b N : Nat) (w : Wd) (hN : 88 ≤ N) (n wd hg : Nat) (sc kc bc bo ag bk : Int32) (st ims kf sg gr mk rs se tt tc : Nat → Int32) (hm : mW G b w n wd hg sc kc bc bo ag bk st ims kf sg gr mk rs se tt tc) (P : Pc) (hP : okPc P) (e1 : st 128 = nI P.1) (e2 : st 129 = nI P.2.1) (lw : Nat) (hlw : lw < 2) (hst : st 130 = nI lw) (i q : Nat) (hi : i + 2 ≤ P.1) (hq : q + 2 ≤ P.2.1) (H0 : i = 0 → q = 0 → tabI tt (7 * i + q) (tb lw P i q).2 ∧ tc (7 * i + q) = (tb lw P i q).1) (HA : 0 < i → tabI tt (7 * (i - 1) + q) (tb lw P (i - 1) q).2 ∧ tc (7 * (i - 1) + q) = (tb lw P (i - 1) q).1) (HB : 0 < q → tabI tt (7 * i + (q - 1)) (tb lw P i (q - 1)).2 ∧ tc (7 * i + (q - 1)) = (tb lw P i (q - 1)).1) : CV l yX6_layPlace cX6_layPlace 6 11 G b N w [.ref (b + 77), .int (nI i), .int (nI q)] (fun w2 => ∃ wd2 hg2 sc2 kc2 gr2 mk2 rs2 se2 tt2 tc2, mW G b w2 n wd2 hg2 sc2 kc2 bc bo ag bk st ims kf sg gr2 mk2 rs2 se2 tt2 tc2 ∧ (tabI tt2 (7 * i + q) (tb lw P i q).2 ∧ tc2 (7 * i + q) = (tb lw P i q).1) ∧ (∀ k, (k < 128 * (7 * i + q) ∨ 128 * (7 * i + q) + 128 ≤ k) → tt2 k = tt k) ∧ (∀ k, k ≠ 7 * i + q → tc2 k = tc k) ∧ ∀ j, (j < 77 ∨ 88 ≤ j) → w2 j = w j) := by
  obtain ⟨m0, m1, m2, m3, m4, m5, m6, m7, m8, m9, m10⟩ := hm
  have hP2 := hP
  obtain ⟨o1, o2, o3, o4⟩ := hP2
  refine CV_of (L0 := [some (.ref (b + 77)), some (.int (nI i)), some (.int (nI q)), none, none, none]) (by decide) rfl (by simp [Value.category]) rfl (Nat.le_of_ble_eq_true rfl) (fun κ X ret => ?_)
  have fr_w : ∀ j, (j < 77 ∨ 88 ≤ j) → w j = w j := fun _ _ => rfl
  refine r_bipush X eX6_layPlace_0 (nI 7) (by decide) ?_
  refine r_iload_n X eX6_layPlace_2 rfl ?_
  refine r_imul X eX6_layPlace_3 (nI (7 * i)) (pk_mul _ _) ?_
  refine r_iload_n X eX6_layPlace_4 rfl ?_
  refine r_iadd X eX6_layPlace_5 (nI (7 * i + q)) (addN rfl) ?_
  refine r_istore_n X eX6_layPlace_6 (Nat.le_of_ble_eq_true rfl) (L2 := [some (.ref (b + 77)), some (.int (nI i)), some (.int (nI q)), some (.int (nI (7 * i + q))), none, none]) rfl ?_
  refine r_iconst X eX6_layPlace_7 ((0 : Int32)) (by decide) ?_
  refine r_istore X eX6_layPlace_8 (Nat.le_of_ble_eq_true rfl) (L2 := [some (.ref (b + 77)), some (.int (nI i)), some (.int (nI q)), some (.int (nI (7 * i + q))), some (.int ((0 : Int32))), none]) rfl ?_
  refine r_iload_n X eX6_layPlace_10 rfl ?_
  refine r_if_le (tgt := 52) X eX6_layPlace_11 (by decide) (nI_toInt (by omega)) (fun c_1 => ?_) (fun c_1 => ?_)
  ·
    refine r_iload_n X eX6_layPlace_52 rfl ?_
    refine r_if_le (tgt := 104) X eX6_layPlace_53 (by decide) (nI_toInt (by omega)) (fun c_2 => ?_) (fun c_2 => ?_)
    ·
      exact ret _ _ _ _ eX6_layPlace_104 (⟨_, _, _, _, _, _, _, _, _, _, ⟨m0, m1, m2, m3, m4, m5, m6, m7, m8, m9, m10⟩, H0 (by omega) (by omega), (fun k hk => rfl), (fun k hk => rfl), fr_w⟩)
    ·
      refine r_aload_n X eX6_layPlace_56 rfl ?_
      refine r_iload_n X eX6_layPlace_57 rfl ?_
      refine r_iload_n X eX6_layPlace_58 rfl ?_
      refine r_iconst X eX6_layPlace_59 (nI 1) (by decide) ?_
      refine r_isub X eX6_layPlace_60 (nI (q - 1)) (pk_sub (by omega)) ?_
      have hdmB := tb_dim lw P (i) (q - 1)
      refine cv_X6_187 X eX6_layPlace_61 (c_X6_load _ G b N w hN n wd hg sc kc bc bo ag bk st ims kf sg gr mk rs se tt tc ⟨m0, m1, m2, m3, m4, m5, m6, m7, m8, m9, m10⟩ P hP e1 e2 (i) (q - 1) (by omega) (by omega)) (by decide) (by omega) m0 rfl (Nat.le_of_ble_eq_true rfl) (fun w3 hp3 => ?_)
      obtain ⟨grB, mkB, ⟨y0B, y1B, y2B, y3B, y4B, y5B, y6B, y7B, y8B, y9B, y10B⟩, hlB, gB⟩ := hp3
      rw [← hdmB.1, ← hdmB.2] at y0B
      have m4_w3 : w3 77 = .inr (6, [.ref (b + 78), .ref (b + 79), .ref (b + 80), .ref (b + 81), .int (nI n), .ref (b + 82), .ref (b + 83), .int (nI ((tb lw P i (q - 1)).2.1)), .int (nI ((tb lw P i (q - 1)).2.2.1)), .ref (b + 84), .ref (b + 85), .int sc, .int kc, .int bc, .int bo, .int ag, .int bk, .ref (b + 86), .ref (b + 87)]) := y0B
      have m5_w3 : w3 78 = aI G 131 st := y1B
      have m6_w3 : w3 79 = aI G 262 ims := y2B
      have m7_w3 : w3 80 = aZ G 2 kf := y3B
      have m8_w3 : w3 81 = aI G 80 sg := y4B
      have m9_w3 : w3 82 = aI G 64 grB := y5B
      have m10_w3 : w3 83 = aI G 64 mkB := y6B
      have m11_w3 : w3 84 = aI G 64 rs := y7B
      have m12_w3 : w3 85 = aI G 8 se := y8B
      have m13_w3 : w3 86 = aI G 6272 tt := y9B
      have m14_w3 : w3 87 = aI G 49 tc := y10B
      have fr_w3 : ∀ j, (j < 77 ∨ 88 ≤ j) → w3 j = w j := fun j hj => (gB j (by omega)).trans (fr_w j hj)
      have hagB := tabI_ag (by omega) (by omega) (HB (by omega)).1 hlB
      have hPB : okPc (tb lw P i (q - 1)).2 := ok_tb hP (by omega) (by omega)
      refine r_aload_n X eX6_layPlace_64 rfl ?_
      refine gf_X6_38 X eX6_layPlace_65 (by omega) m4_w3 ?_
      refine r_iload_n X eX6_layPlace_68 rfl ?_
      refine r_iconst X eX6_layPlace_69 (nI 1) (by decide) ?_
      refine r_isub X eX6_layPlace_70 (nI ((7 * i + q) - 1)) (pk_sub (by omega)) ?_
      refine r_iald X eX6_layPlace_71 (by omega) m14_w3 (by omega) (by decide) ?_
      refine r_top (y := (tb lw P i (q - 1)).1) (by rw [show 7 * i + q - 1 = 7 * i + (q - 1) by omega]; exact (HB (by omega)).2) ?_
      refine r_aload_n X eX6_layPlace_72 rfl ?_
      refine r_iconst X eX6_layPlace_73 (nI 1) (by decide) ?_
      refine cv_X6_150 X eX6_layPlace_74 (c_X6_cutWay _ G b N w3 hN n ((tb lw P i (q - 1)).2) sc kc bc bo ag bk st ims kf sg grB mkB rs se tt tc ⟨m4_w3, m5_w3, m6_w3, m7_w3, m8_w3, m9_w3, m10_w3, m11_w3, m12_w3, m13_w3, m14_w3⟩ hPB lw hlw hst hagB 1 (by omega)) (by decide) (by omega) m4_w3 rfl (Nat.le_of_ble_eq_true rfl) (fun r15 w15 hp15 => ?_)
      obtain ⟨roD, ⟨grD, mkD, rsD, seD, ⟨y0D, y1D, y2D, y3D, y4D, y5D, y6D, y7D, y8D, y9D, y10D⟩, hagD, gD⟩⟩ := hp15
      have m16_w15 : w15 77 = .inr (6, [.ref (b + 78), .ref (b + 79), .ref (b + 80), .ref (b + 81), .int (nI n), .ref (b + 82), .ref (b + 83), .int (nI ((cutP lw (tb lw P i (q - 1)).2 1).1)), .int (nI ((cutP lw (tb lw P i (q - 1)).2 1).2.1)), .ref (b + 84), .ref (b + 85), .int (tA lw (tb lw P i (q - 1)).2 1), .int (kc + kA lw (tb lw P i (q - 1)).2 1), .int bc, .int bo, .int ag, .int bk, .ref (b + 86), .ref (b + 87)]) := y0D
      have m17_w15 : w15 78 = aI G 131 st := y1D
      have m18_w15 : w15 79 = aI G 262 ims := y2D
      have m19_w15 : w15 80 = aZ G 2 kf := y3D
      have m20_w15 : w15 81 = aI G 80 sg := y4D
      have m21_w15 : w15 82 = aI G 64 grD := y5D
      have m22_w15 : w15 83 = aI G 64 mkD := y6D
      have m23_w15 : w15 84 = aI G 64 rsD := y7D
      have m24_w15 : w15 85 = aI G 8 seD := y8D
      have m25_w15 : w15 86 = aI G 6272 tt := y9D
      have m26_w15 : w15 87 = aI G 49 tc := y10D
      have fr_w15 : ∀ j, (j < 77 ∨ 88 ≤ j) → w15 j = w j := fun j hj => (gD j (by omega)).trans (fr_w3 j hj)
      rw [roD]
      refine r_iadd X eX6_layPlace_77 (((tb lw P i (q - 1)).1) + (tA lw (tb lw P i (q - 1)).2 1)) rfl ?_
      refine r_istore X eX6_layPlace_78 (Nat.le_of_ble_eq_true rfl) (L2 := [some (.ref (b + 77)), some (.int (nI i)), some (.int (nI q)), some (.int (nI (7 * i + q))), some (.int ((0 : Int32))), some (.int (((tb lw P i (q - 1)).1) + (tA lw (tb lw P i (q - 1)).2 1)))]) rfl ?_
      refine r_iload_n X eX6_layPlace_80 rfl ?_
      refine r_if_eq (tgt := 91) X eX6_layPlace_81 (by decide) (nI_toInt (by omega)) (fun c_27 => ?_) (fun c_27 => absurd c_27 (by omega))
      refine r_aload_n X eX6_layPlace_91 rfl ?_
      refine gf_X6_38 X eX6_layPlace_92 (by omega) m16_w15 ?_
      refine r_iload_n X eX6_layPlace_95 rfl ?_
      refine r_iload X eX6_layPlace_96 rfl ?_
      refine r_iast X eX6_layPlace_98 (by omega) m26_w15 (by omega) (by decide) (fun w28 n28_w28 uu28 => ?_)
      have m16_w28 := (uu28 77 (by omega)).trans m16_w15
      have m17_w28 := (uu28 78 (by omega)).trans m17_w15
      have m18_w28 := (uu28 79 (by omega)).trans m18_w15
      have m19_w28 := (uu28 80 (by omega)).trans m19_w15
      have m20_w28 := (uu28 81 (by omega)).trans m20_w15
      have m21_w28 := (uu28 82 (by omega)).trans m21_w15
      have m22_w28 := (uu28 83 (by omega)).trans m22_w15
      have m23_w28 := (uu28 84 (by omega)).trans m23_w15
      have m24_w28 := (uu28 85 (by omega)).trans m24_w15
      have m25_w28 := (uu28 86 (by omega)).trans m25_w15
      have fr_w28 : ∀ j, (j < 77 ∨ 88 ≤ j) → w28 j = w j := fun j hj => (uu28 j (by omega)).trans (fr_w15 j hj)
      refine r_aload_n X eX6_layPlace_99 rfl ?_
      refine r_iload_n X eX6_layPlace_100 rfl ?_
      refine cv_X6_190 X eX6_layPlace_101 (c_X6_save _ G b N w28 hN n ((cutP lw (tb lw P i (q - 1)).2 1).1) ((cutP lw (tb lw P i (q - 1)).2 1).2.1) (tA lw (tb lw P i (q - 1)).2 1) (kc + kA lw (tb lw P i (q - 1)).2 1) bc bo ag bk st ims kf sg grD mkD rsD seD tt (upd tc (7 * i + q) (((tb lw P i (q - 1)).1) + (tA lw (tb lw P i (q - 1)).2 1))) ⟨m16_w28, m17_w28, m18_w28, m19_w28, m20_w28, m21_w28, m22_w28, m23_w28, m24_w28, m25_w28, n28_w28⟩ (7 * i + q) (by omega)) (by decide) (by omega) m16_w28 rfl (Nat.le_of_ble_eq_true rfl) (fun w29 hp29 => ?_)
      obtain ⟨ttU, ⟨y0U, y1U, y2U, y3U, y4U, y5U, y6U, y7U, y8U, y9U, y10U⟩, hsU, hoU, gU⟩ := hp29
      have m30_w29 : w29 77 = .inr (6, [.ref (b + 78), .ref (b + 79), .ref (b + 80), .ref (b + 81), .int (nI n), .ref (b + 82), .ref (b + 83), .int (nI ((cutP lw (tb lw P i (q - 1)).2 1).1)), .int (nI ((cutP lw (tb lw P i (q - 1)).2 1).2.1)), .ref (b + 84), .ref (b + 85), .int (tA lw (tb lw P i (q - 1)).2 1), .int (kc + kA lw (tb lw P i (q - 1)).2 1), .int bc, .int bo, .int ag, .int bk, .ref (b + 86), .ref (b + 87)]) := y0U
      have m31_w29 : w29 78 = aI G 131 st := y1U
      have m32_w29 : w29 79 = aI G 262 ims := y2U
      have m33_w29 : w29 80 = aZ G 2 kf := y3U
      have m34_w29 : w29 81 = aI G 80 sg := y4U
      have m35_w29 : w29 82 = aI G 64 grD := y5U
      have m36_w29 : w29 83 = aI G 64 mkD := y6U
      have m37_w29 : w29 84 = aI G 64 rsD := y7U
      have m38_w29 : w29 85 = aI G 8 seD := y8U
      have m39_w29 : w29 86 = aI G 6272 ttU := y9U
      have m40_w29 : w29 87 = aI G 49 (upd tc (7 * i + q) (((tb lw P i (q - 1)).1) + (tA lw (tb lw P i (q - 1)).2 1))) := y10U
      have fr_w29 : ∀ j, (j < 77 ∨ 88 ≤ j) → w29 j = w j := fun j hj => (gU j (by omega)).trans (fr_w28 j hj)
      have htU : tabI ttU (7 * i + q) (cutP lw (tb lw P i (q - 1)).2 1) := tabI_of (show (tb lw P i (q - 1)).2.1 ≤ 8 by omega) (show (tb lw P i (q - 1)).2.2.1 - 1 ≤ 8 by omega) hagD hsU
      exact ret _ _ _ _ eX6_layPlace_104 (⟨_, _, _, _, _, _, _, _, _, _, ⟨m30_w29, m31_w29, m32_w29, m33_w29, m34_w29, m35_w29, m36_w29, m37_w29, m38_w29, m39_w29, m40_w29⟩, (by have hi0 : i = 0 := (by omega); subst hi0; rw [tb_0j (by omega)]; exact ⟨htU, upd_self⟩), (fun k hk => hoU k hk), (fun k hk => upd_ne hk), fr_w29⟩)
  ·
    refine r_aload_n X eX6_layPlace_14 rfl ?_
    refine r_iload_n X eX6_layPlace_15 rfl ?_
    refine r_iconst X eX6_layPlace_16 (nI 1) (by decide) ?_
    refine r_isub X eX6_layPlace_17 (nI (i - 1)) (pk_sub (by omega)) ?_
    refine r_iload_n X eX6_layPlace_18 rfl ?_
    have hdmA := tb_dim lw P (i - 1) (q)
    refine cv_X6_187 X eX6_layPlace_19 (c_X6_load _ G b N w hN n wd hg sc kc bc bo ag bk st ims kf sg gr mk rs se tt tc ⟨m0, m1, m2, m3, m4, m5, m6, m7, m8, m9, m10⟩ P hP e1 e2 (i - 1) (q) (by omega) (by omega)) (by decide) (by omega) m0 rfl (Nat.le_of_ble_eq_true rfl) (fun w41 hp41 => ?_)
    obtain ⟨grA, mkA, ⟨y0A, y1A, y2A, y3A, y4A, y5A, y6A, y7A, y8A, y9A, y10A⟩, hlA, gA⟩ := hp41
    rw [← hdmA.1, ← hdmA.2] at y0A
    have m42_w41 : w41 77 = .inr (6, [.ref (b + 78), .ref (b + 79), .ref (b + 80), .ref (b + 81), .int (nI n), .ref (b + 82), .ref (b + 83), .int (nI ((tb lw P (i - 1) q).2.1)), .int (nI ((tb lw P (i - 1) q).2.2.1)), .ref (b + 84), .ref (b + 85), .int sc, .int kc, .int bc, .int bo, .int ag, .int bk, .ref (b + 86), .ref (b + 87)]) := y0A
    have m43_w41 : w41 78 = aI G 131 st := y1A
    have m44_w41 : w41 79 = aI G 262 ims := y2A
    have m45_w41 : w41 80 = aZ G 2 kf := y3A
    have m46_w41 : w41 81 = aI G 80 sg := y4A
    have m47_w41 : w41 82 = aI G 64 grA := y5A
    have m48_w41 : w41 83 = aI G 64 mkA := y6A
    have m49_w41 : w41 84 = aI G 64 rs := y7A
    have m50_w41 : w41 85 = aI G 8 se := y8A
    have m51_w41 : w41 86 = aI G 6272 tt := y9A
    have m52_w41 : w41 87 = aI G 49 tc := y10A
    have fr_w41 : ∀ j, (j < 77 ∨ 88 ≤ j) → w41 j = w j := fun j hj => (gA j (by omega)).trans (fr_w j hj)
    have hagA := tabI_ag (by omega) (by omega) (HA (by omega)).1 hlA
    have hPA : okPc (tb lw P (i - 1) q).2 := ok_tb hP (by omega) (by omega)
    refine r_aload_n X eX6_layPlace_22 rfl ?_
    refine gf_X6_38 X eX6_layPlace_23 (by omega) m42_w41 ?_
    refine r_iload_n X eX6_layPlace_26 rfl ?_
    refine r_bipush X eX6_layPlace_27 (nI 7) (by decide) ?_
    refine r_isub X eX6_layPlace_29 (nI ((7 * i + q) - 7)) (pk_sub (by omega)) ?_
    refine r_iald X eX6_layPlace_30 (by omega) m52_w41 (by omega) (by decide) ?_
    refine r_top (y := (tb lw P (i - 1) q).1) (by rw [show 7 * i + q - 7 = 7 * (i - 1) + q by omega]; exact (HA (by omega)).2) ?_
    refine r_aload_n X eX6_layPlace_31 rfl ?_
    refine r_iconst X eX6_layPlace_32 (nI 0) (by decide) ?_
    refine cv_X6_150 X eX6_layPlace_33 (c_X6_cutWay _ G b N w41 hN n ((tb lw P (i - 1) q).2) sc kc bc bo ag bk st ims kf sg grA mkA rs se tt tc ⟨m42_w41, m43_w41, m44_w41, m45_w41, m46_w41, m47_w41, m48_w41, m49_w41, m50_w41, m51_w41, m52_w41⟩ hPA lw hlw hst hagA 0 (by omega)) (by decide) (by omega) m42_w41 rfl (Nat.le_of_ble_eq_true rfl) (fun r53 w53 hp53 => ?_)
    obtain ⟨roC, ⟨grC, mkC, rsC, seC, ⟨y0C, y1C, y2C, y3C, y4C, y5C, y6C, y7C, y8C, y9C, y10C⟩, hagC, gC⟩⟩ := hp53
    have m54_w53 : w53 77 = .inr (6, [.ref (b + 78), .ref (b + 79), .ref (b + 80), .ref (b + 81), .int (nI n), .ref (b + 82), .ref (b + 83), .int (nI ((cutP lw (tb lw P (i - 1) q).2 0).1)), .int (nI ((cutP lw (tb lw P (i - 1) q).2 0).2.1)), .ref (b + 84), .ref (b + 85), .int (tA lw (tb lw P (i - 1) q).2 0), .int (kc + kA lw (tb lw P (i - 1) q).2 0), .int bc, .int bo, .int ag, .int bk, .ref (b + 86), .ref (b + 87)]) := y0C
    have m55_w53 : w53 78 = aI G 131 st := y1C
    have m56_w53 : w53 79 = aI G 262 ims := y2C
    have m57_w53 : w53 80 = aZ G 2 kf := y3C
    have m58_w53 : w53 81 = aI G 80 sg := y4C
    have m59_w53 : w53 82 = aI G 64 grC := y5C
    have m60_w53 : w53 83 = aI G 64 mkC := y6C
    have m61_w53 : w53 84 = aI G 64 rsC := y7C
    have m62_w53 : w53 85 = aI G 8 seC := y8C
    have m63_w53 : w53 86 = aI G 6272 tt := y9C
    have m64_w53 : w53 87 = aI G 49 tc := y10C
    have fr_w53 : ∀ j, (j < 77 ∨ 88 ≤ j) → w53 j = w j := fun j hj => (gC j (by omega)).trans (fr_w41 j hj)
    rw [roC]
    refine r_iadd X eX6_layPlace_36 (((tb lw P (i - 1) q).1) + (tA lw (tb lw P (i - 1) q).2 0)) rfl ?_
    refine r_istore X eX6_layPlace_37 (Nat.le_of_ble_eq_true rfl) (L2 := [some (.ref (b + 77)), some (.int (nI i)), some (.int (nI q)), some (.int (nI (7 * i + q))), some (.int (((tb lw P (i - 1) q).1) + (tA lw (tb lw P (i - 1) q).2 0))), none]) rfl ?_
    refine r_aload_n X eX6_layPlace_39 rfl ?_
    refine gf_X6_38 X eX6_layPlace_40 (by omega) m54_w53 ?_
    refine r_iload_n X eX6_layPlace_43 rfl ?_
    refine r_iload X eX6_layPlace_44 rfl ?_
    refine r_iast X eX6_layPlace_46 (by omega) m64_w53 (by omega) (by decide) (fun w65 n65_w65 uu65 => ?_)
    have m54_w65 := (uu65 77 (by omega)).trans m54_w53
    have m55_w65 := (uu65 78 (by omega)).trans m55_w53
    have m56_w65 := (uu65 79 (by omega)).trans m56_w53
    have m57_w65 := (uu65 80 (by omega)).trans m57_w53
    have m58_w65 := (uu65 81 (by omega)).trans m58_w53
    have m59_w65 := (uu65 82 (by omega)).trans m59_w53
    have m60_w65 := (uu65 83 (by omega)).trans m60_w53
    have m61_w65 := (uu65 84 (by omega)).trans m61_w53
    have m62_w65 := (uu65 85 (by omega)).trans m62_w53
    have m63_w65 := (uu65 86 (by omega)).trans m63_w53
    have fr_w65 : ∀ j, (j < 77 ∨ 88 ≤ j) → w65 j = w j := fun j hj => (uu65 j (by omega)).trans (fr_w53 j hj)
    refine r_aload_n X eX6_layPlace_47 rfl ?_
    refine r_iload_n X eX6_layPlace_48 rfl ?_
    refine cv_X6_190 X eX6_layPlace_49 (c_X6_save _ G b N w65 hN n ((cutP lw (tb lw P (i - 1) q).2 0).1) ((cutP lw (tb lw P (i - 1) q).2 0).2.1) (tA lw (tb lw P (i - 1) q).2 0) (kc + kA lw (tb lw P (i - 1) q).2 0) bc bo ag bk st ims kf sg grC mkC rsC seC tt (upd tc (7 * i + q) (((tb lw P (i - 1) q).1) + (tA lw (tb lw P (i - 1) q).2 0))) ⟨m54_w65, m55_w65, m56_w65, m57_w65, m58_w65, m59_w65, m60_w65, m61_w65, m62_w65, m63_w65, n65_w65⟩ (7 * i + q) (by omega)) (by decide) (by omega) m54_w65 rfl (Nat.le_of_ble_eq_true rfl) (fun w66 hp66 => ?_)
    obtain ⟨ttS, ⟨y0S, y1S, y2S, y3S, y4S, y5S, y6S, y7S, y8S, y9S, y10S⟩, hsS, hoS, gS⟩ := hp66
    have m67_w66 : w66 77 = .inr (6, [.ref (b + 78), .ref (b + 79), .ref (b + 80), .ref (b + 81), .int (nI n), .ref (b + 82), .ref (b + 83), .int (nI ((cutP lw (tb lw P (i - 1) q).2 0).1)), .int (nI ((cutP lw (tb lw P (i - 1) q).2 0).2.1)), .ref (b + 84), .ref (b + 85), .int (tA lw (tb lw P (i - 1) q).2 0), .int (kc + kA lw (tb lw P (i - 1) q).2 0), .int bc, .int bo, .int ag, .int bk, .ref (b + 86), .ref (b + 87)]) := y0S
    have m68_w66 : w66 78 = aI G 131 st := y1S
    have m69_w66 : w66 79 = aI G 262 ims := y2S
    have m70_w66 : w66 80 = aZ G 2 kf := y3S
    have m71_w66 : w66 81 = aI G 80 sg := y4S
    have m72_w66 : w66 82 = aI G 64 grC := y5S
    have m73_w66 : w66 83 = aI G 64 mkC := y6S
    have m74_w66 : w66 84 = aI G 64 rsC := y7S
    have m75_w66 : w66 85 = aI G 8 seC := y8S
    have m76_w66 : w66 86 = aI G 6272 ttS := y9S
    have m77_w66 : w66 87 = aI G 49 (upd tc (7 * i + q) (((tb lw P (i - 1) q).1) + (tA lw (tb lw P (i - 1) q).2 0))) := y10S
    have fr_w66 : ∀ j, (j < 77 ∨ 88 ≤ j) → w66 j = w j := fun j hj => (gS j (by omega)).trans (fr_w65 j hj)
    have htS : tabI ttS (7 * i + q) (cutP lw (tb lw P (i - 1) q).2 0) := tabI_of (show (tb lw P (i - 1) q).2.1 - 1 ≤ 8 by omega) (show (tb lw P (i - 1) q).2.2.1 ≤ 8 by omega) hagC hsS
    refine r_iload_n X eX6_layPlace_52 rfl ?_
    refine r_if_le (tgt := 104) X eX6_layPlace_53 (by decide) (nI_toInt (by omega)) (fun c_78 => ?_) (fun c_78 => ?_)
    ·
      exact ret _ _ _ _ eX6_layPlace_104 (⟨_, _, _, _, _, _, _, _, _, _, ⟨m67_w66, m68_w66, m69_w66, m70_w66, m71_w66, m72_w66, m73_w66, m74_w66, m75_w66, m76_w66, m77_w66⟩, (by have hq0 : q = 0 := (by omega); subst hq0; rw [tb_i0 (by omega)]; exact ⟨htS, upd_self⟩), (fun k hk => hoS k hk), (fun k hk => upd_ne hk), fr_w66⟩)
    ·
      refine r_aload_n X eX6_layPlace_56 rfl ?_
      refine r_iload_n X eX6_layPlace_57 rfl ?_
      refine r_iload_n X eX6_layPlace_58 rfl ?_
      refine r_iconst X eX6_layPlace_59 (nI 1) (by decide) ?_
      refine r_isub X eX6_layPlace_60 (nI (q - 1)) (pk_sub (by omega)) ?_
      have hdmB := tb_dim lw P (i) (q - 1)
      refine cv_X6_187 X eX6_layPlace_61 (c_X6_load _ G b N w66 hN n ((cutP lw (tb lw P (i - 1) q).2 0).1) ((cutP lw (tb lw P (i - 1) q).2 0).2.1) (tA lw (tb lw P (i - 1) q).2 0) (kc + kA lw (tb lw P (i - 1) q).2 0) bc bo ag bk st ims kf sg grC mkC rsC seC ttS (upd tc (7 * i + q) (((tb lw P (i - 1) q).1) + (tA lw (tb lw P (i - 1) q).2 0))) ⟨m67_w66, m68_w66, m69_w66, m70_w66, m71_w66, m72_w66, m73_w66, m74_w66, m75_w66, m76_w66, m77_w66⟩ P hP e1 e2 (i) (q - 1) (by omega) (by omega)) (by decide) (by omega) m67_w66 rfl (Nat.le_of_ble_eq_true rfl) (fun w79 hp79 => ?_)
      obtain ⟨grB, mkB, ⟨y0B, y1B, y2B, y3B, y4B, y5B, y6B, y7B, y8B, y9B, y10B⟩, hlB, gB⟩ := hp79
      rw [← hdmB.1, ← hdmB.2] at y0B
      have m80_w79 : w79 77 = .inr (6, [.ref (b + 78), .ref (b + 79), .ref (b + 80), .ref (b + 81), .int (nI n), .ref (b + 82), .ref (b + 83), .int (nI ((tb lw P i (q - 1)).2.1)), .int (nI ((tb lw P i (q - 1)).2.2.1)), .ref (b + 84), .ref (b + 85), .int (tA lw (tb lw P (i - 1) q).2 0), .int (kc + kA lw (tb lw P (i - 1) q).2 0), .int bc, .int bo, .int ag, .int bk, .ref (b + 86), .ref (b + 87)]) := y0B
      have m81_w79 : w79 78 = aI G 131 st := y1B
      have m82_w79 : w79 79 = aI G 262 ims := y2B
      have m83_w79 : w79 80 = aZ G 2 kf := y3B
      have m84_w79 : w79 81 = aI G 80 sg := y4B
      have m85_w79 : w79 82 = aI G 64 grB := y5B
      have m86_w79 : w79 83 = aI G 64 mkB := y6B
      have m87_w79 : w79 84 = aI G 64 rsC := y7B
      have m88_w79 : w79 85 = aI G 8 seC := y8B
      have m89_w79 : w79 86 = aI G 6272 ttS := y9B
      have m90_w79 : w79 87 = aI G 49 (upd tc (7 * i + q) (((tb lw P (i - 1) q).1) + (tA lw (tb lw P (i - 1) q).2 0))) := y10B
      have fr_w79 : ∀ j, (j < 77 ∨ 88 ≤ j) → w79 j = w j := fun j hj => (gB j (by omega)).trans (fr_w66 j hj)
      have hagB := tabI_ag (by omega) (by omega) (tabI_fr (by omega) (by omega) (HB (by omega)).1 (show 7 * i + (q - 1) ≠ 7 * i + q by omega) hoS) hlB
      have hPB : okPc (tb lw P i (q - 1)).2 := ok_tb hP (by omega) (by omega)
      refine r_aload_n X eX6_layPlace_64 rfl ?_
      refine gf_X6_38 X eX6_layPlace_65 (by omega) m80_w79 ?_
      refine r_iload_n X eX6_layPlace_68 rfl ?_
      refine r_iconst X eX6_layPlace_69 (nI 1) (by decide) ?_
      refine r_isub X eX6_layPlace_70 (nI ((7 * i + q) - 1)) (pk_sub (by omega)) ?_
      refine r_iald X eX6_layPlace_71 (by omega) m90_w79 (by omega) (by decide) ?_
      refine r_top (y := (tb lw P i (q - 1)).1) (by rw [upd_ne (show 7 * i + q - 1 ≠ 7 * i + q by omega), show 7 * i + q - 1 = 7 * i + (q - 1) by omega]; exact (HB (by omega)).2) ?_
      refine r_aload_n X eX6_layPlace_72 rfl ?_
      refine r_iconst X eX6_layPlace_73 (nI 1) (by decide) ?_
      refine cv_X6_150 X eX6_layPlace_74 (c_X6_cutWay _ G b N w79 hN n ((tb lw P i (q - 1)).2) (tA lw (tb lw P (i - 1) q).2 0) (kc + kA lw (tb lw P (i - 1) q).2 0) bc bo ag bk st ims kf sg grB mkB rsC seC ttS (upd tc (7 * i + q) (((tb lw P (i - 1) q).1) + (tA lw (tb lw P (i - 1) q).2 0))) ⟨m80_w79, m81_w79, m82_w79, m83_w79, m84_w79, m85_w79, m86_w79, m87_w79, m88_w79, m89_w79, m90_w79⟩ hPB lw hlw hst hagB 1 (by omega)) (by decide) (by omega) m80_w79 rfl (Nat.le_of_ble_eq_true rfl) (fun r91 w91 hp91 => ?_)
      obtain ⟨roD, ⟨grD, mkD, rsD, seD, ⟨y0D, y1D, y2D, y3D, y4D, y5D, y6D, y7D, y8D, y9D, y10D⟩, hagD, gD⟩⟩ := hp91
      have m92_w91 : w91 77 = .inr (6, [.ref (b + 78), .ref (b + 79), .ref (b + 80), .ref (b + 81), .int (nI n), .ref (b + 82), .ref (b + 83), .int (nI ((cutP lw (tb lw P i (q - 1)).2 1).1)), .int (nI ((cutP lw (tb lw P i (q - 1)).2 1).2.1)), .ref (b + 84), .ref (b + 85), .int (tA lw (tb lw P i (q - 1)).2 1), .int (kc + kA lw (tb lw P (i - 1) q).2 0 + kA lw (tb lw P i (q - 1)).2 1), .int bc, .int bo, .int ag, .int bk, .ref (b + 86), .ref (b + 87)]) := y0D
      have m93_w91 : w91 78 = aI G 131 st := y1D
      have m94_w91 : w91 79 = aI G 262 ims := y2D
      have m95_w91 : w91 80 = aZ G 2 kf := y3D
      have m96_w91 : w91 81 = aI G 80 sg := y4D
      have m97_w91 : w91 82 = aI G 64 grD := y5D
      have m98_w91 : w91 83 = aI G 64 mkD := y6D
      have m99_w91 : w91 84 = aI G 64 rsD := y7D
      have m100_w91 : w91 85 = aI G 8 seD := y8D
      have m101_w91 : w91 86 = aI G 6272 ttS := y9D
      have m102_w91 : w91 87 = aI G 49 (upd tc (7 * i + q) (((tb lw P (i - 1) q).1) + (tA lw (tb lw P (i - 1) q).2 0))) := y10D
      have fr_w91 : ∀ j, (j < 77 ∨ 88 ≤ j) → w91 j = w j := fun j hj => (gD j (by omega)).trans (fr_w79 j hj)
      rw [roD]
      refine r_iadd X eX6_layPlace_77 (((tb lw P i (q - 1)).1) + (tA lw (tb lw P i (q - 1)).2 1)) rfl ?_
      refine r_istore X eX6_layPlace_78 (Nat.le_of_ble_eq_true rfl) (L2 := [some (.ref (b + 77)), some (.int (nI i)), some (.int (nI q)), some (.int (nI (7 * i + q))), some (.int (((tb lw P (i - 1) q).1) + (tA lw (tb lw P (i - 1) q).2 0))), some (.int (((tb lw P i (q - 1)).1) + (tA lw (tb lw P i (q - 1)).2 1)))]) rfl ?_
      refine r_iload_n X eX6_layPlace_80 rfl ?_
      refine r_if_eq (tgt := 91) X eX6_layPlace_81 (by decide) (nI_toInt (by omega)) (fun c_103 => absurd c_103 (by omega)) (fun c_103 => ?_)
      refine r_iload X eX6_layPlace_84 rfl ?_
      refine r_iload X eX6_layPlace_86 rfl ?_
      refine r_icmp_ge (tgt := 104) X eX6_layPlace_88 (by decide) rfl rfl (fun c_104 => ?_) (fun c_104 => ?_)
      ·
        exact ret _ _ _ _ eX6_layPlace_104 (⟨_, _, _, _, _, _, _, _, _, _, ⟨m92_w91, m93_w91, m94_w91, m95_w91, m96_w91, m97_w91, m98_w91, m99_w91, m100_w91, m101_w91, m102_w91⟩, (by rw [tb_ij (by omega) (by omega), chS, if_neg (fun z => by have hzz := Int32.lt_iff_toInt_lt.mp z; omega)]; exact ⟨htS, upd_self⟩), (fun k hk => hoS k hk), (fun k hk => upd_ne hk), fr_w91⟩)
      ·
        refine r_aload_n X eX6_layPlace_91 rfl ?_
        refine gf_X6_38 X eX6_layPlace_92 (by omega) m92_w91 ?_
        refine r_iload_n X eX6_layPlace_95 rfl ?_
        refine r_iload X eX6_layPlace_96 rfl ?_
        refine r_iast X eX6_layPlace_98 (by omega) m102_w91 (by omega) (by decide) (fun w105 n105_w105 uu105 => ?_)
        have m92_w105 := (uu105 77 (by omega)).trans m92_w91
        have m93_w105 := (uu105 78 (by omega)).trans m93_w91
        have m94_w105 := (uu105 79 (by omega)).trans m94_w91
        have m95_w105 := (uu105 80 (by omega)).trans m95_w91
        have m96_w105 := (uu105 81 (by omega)).trans m96_w91
        have m97_w105 := (uu105 82 (by omega)).trans m97_w91
        have m98_w105 := (uu105 83 (by omega)).trans m98_w91
        have m99_w105 := (uu105 84 (by omega)).trans m99_w91
        have m100_w105 := (uu105 85 (by omega)).trans m100_w91
        have m101_w105 := (uu105 86 (by omega)).trans m101_w91
        have fr_w105 : ∀ j, (j < 77 ∨ 88 ≤ j) → w105 j = w j := fun j hj => (uu105 j (by omega)).trans (fr_w91 j hj)
        refine r_aload_n X eX6_layPlace_99 rfl ?_
        refine r_iload_n X eX6_layPlace_100 rfl ?_
        refine cv_X6_190 X eX6_layPlace_101 (c_X6_save _ G b N w105 hN n ((cutP lw (tb lw P i (q - 1)).2 1).1) ((cutP lw (tb lw P i (q - 1)).2 1).2.1) (tA lw (tb lw P i (q - 1)).2 1) (kc + kA lw (tb lw P (i - 1) q).2 0 + kA lw (tb lw P i (q - 1)).2 1) bc bo ag bk st ims kf sg grD mkD rsD seD ttS (upd (upd tc (7 * i + q) (((tb lw P (i - 1) q).1) + (tA lw (tb lw P (i - 1) q).2 0))) (7 * i + q) (((tb lw P i (q - 1)).1) + (tA lw (tb lw P i (q - 1)).2 1))) ⟨m92_w105, m93_w105, m94_w105, m95_w105, m96_w105, m97_w105, m98_w105, m99_w105, m100_w105, m101_w105, n105_w105⟩ (7 * i + q) (by omega)) (by decide) (by omega) m92_w105 rfl (Nat.le_of_ble_eq_true rfl) (fun w106 hp106 => ?_)
        obtain ⟨ttU, ⟨y0U, y1U, y2U, y3U, y4U, y5U, y6U, y7U, y8U, y9U, y10U⟩, hsU, hoU, gU⟩ := hp106
        have m107_w106 : w106 77 = .inr (6, [.ref (b + 78), .ref (b + 79), .ref (b + 80), .ref (b + 81), .int (nI n), .ref (b + 82), .ref (b + 83), .int (nI ((cutP lw (tb lw P i (q - 1)).2 1).1)), .int (nI ((cutP lw (tb lw P i (q - 1)).2 1).2.1)), .ref (b + 84), .ref (b + 85), .int (tA lw (tb lw P i (q - 1)).2 1), .int (kc + kA lw (tb lw P (i - 1) q).2 0 + kA lw (tb lw P i (q - 1)).2 1), .int bc, .int bo, .int ag, .int bk, .ref (b + 86), .ref (b + 87)]) := y0U
        have m108_w106 : w106 78 = aI G 131 st := y1U
        have m109_w106 : w106 79 = aI G 262 ims := y2U
        have m110_w106 : w106 80 = aZ G 2 kf := y3U
        have m111_w106 : w106 81 = aI G 80 sg := y4U
        have m112_w106 : w106 82 = aI G 64 grD := y5U
        have m113_w106 : w106 83 = aI G 64 mkD := y6U
        have m114_w106 : w106 84 = aI G 64 rsD := y7U
        have m115_w106 : w106 85 = aI G 8 seD := y8U
        have m116_w106 : w106 86 = aI G 6272 ttU := y9U
        have m117_w106 : w106 87 = aI G 49 (upd (upd tc (7 * i + q) (((tb lw P (i - 1) q).1) + (tA lw (tb lw P (i - 1) q).2 0))) (7 * i + q) (((tb lw P i (q - 1)).1) + (tA lw (tb lw P i (q - 1)).2 1))) := y10U
        have fr_w106 : ∀ j, (j < 77 ∨ 88 ≤ j) → w106 j = w j := fun j hj => (gU j (by omega)).trans (fr_w105 j hj)
        have htU : tabI ttU (7 * i + q) (cutP lw (tb lw P i (q - 1)).2 1) := tabI_of (show (tb lw P i (q - 1)).2.1 ≤ 8 by omega) (show (tb lw P i (q - 1)).2.2.1 - 1 ≤ 8 by omega) hagD hsU
        exact ret _ _ _ _ eX6_layPlace_104 (⟨_, _, _, _, _, _, _, _, _, _, ⟨m107_w106, m108_w106, m109_w106, m110_w106, m111_w106, m112_w106, m113_w106, m114_w106, m115_w106, m116_w106, m117_w106⟩, (by rw [tb_ij (by omega) (by omega), chS, if_pos (Int32.lt_iff_toInt_lt.mpr c_104)]; exact ⟨htU, upd_self⟩), (fun k hk => (hoU k hk).trans (hoS k hk)), (fun k hk => (upd_ne hk).trans (upd_ne hk)), fr_w106⟩)
set_option maxHeartbeats 4000000 in
set_option maxRecDepth 100000 in
theorem c_X6_layTable (l : Launch) (G : Gs) (b N : Nat) (w : Wd) (hN : 88 ≤ N) (n wd hg : Nat) (sc kc bc bo ag bk : Int32) (st ims kf sg gr mk rs se tt tc : Nat → Int32) (hm : mW G b w n wd hg sc kc bc bo ag bk st ims kf sg gr mk rs se tt tc) (P : Pc) (hP : okPc P) (e1 : st 128 = nI P.1) (e2 : st 129 = nI P.2.1) (lw : Nat) (hlw : lw < 2) (hst : st 130 = nI lw) (hsI : stI st lw P) (a e : Nat) (ha : a + 2 ≤ P.1) (he : e + 2 ≤ P.2.1) : CV l yX6_layTable cX6_layTable 5 12 G b N w [.ref (b + 77), .int (nI a), .int (nI e)] (fun w2 => ∃ sc2 kc2 gr2 mk2 rs2 se2 tt2 tc2, mW G b w2 n (P.1 - a) (P.2.1 - e) sc2 kc2 bc bo ag bk st ims kf sg gr2 mk2 rs2 se2 tt2 tc2 ∧ agG (tb lw P a e).2 0 gr2 mk2 ∧ tc2 (7 * a + e) = (tb lw P a e).1 ∧ ∀ j, (j < 77 ∨ 88 ≤ j) → w2 j = w j) := by
  obtain ⟨m0, m1, m2, m3, m4, m5, m6, m7, m8, m9, m10⟩ := hm
  have hP2 := hP
  obtain ⟨o1, o2, o3, o4⟩ := hP2
  refine CV_of (L0 := [some (.ref (b + 77)), some (.int (nI a)), some (.int (nI e)), none, none]) (by decide) rfl (by simp [Value.category]) rfl (Nat.le_of_ble_eq_true rfl) (fun κ X ret => ?_)
  have fr_w : ∀ j, (j < 77 ∨ 88 ≤ j) → w j = w j := fun _ _ => rfl
  refine r_aload_n X eX6_layTable_0 rfl ?_
  refine cv_X6_124 X eX6_layTable_1 (c_X6_take _ G b N w hN n wd hg sc kc bc bo ag bk st ims kf sg gr mk rs se tt tc ⟨m0, m1, m2, m3, m4, m5, m6, m7, m8, m9, m10⟩ P.1 P.2.1 e1 e2) (by decide) (by omega) m0 rfl (Nat.le_of_ble_eq_true rfl) (fun w1 hp1 => ?_)
  obtain ⟨gr2, mk2, ⟨y0K, y1K, y2K, y3K, y4K, y5K, y6K, y7K, y8K, y9K, y10K⟩, hgk, gK⟩ := hp1
  have m2_w1 : w1 77 = .inr (6, [.ref (b + 78), .ref (b + 79), .ref (b + 80), .ref (b + 81), .int (nI n), .ref (b + 82), .ref (b + 83), .int (nI P.1), .int (nI P.2.1), .ref (b + 84), .ref (b + 85), .int sc, .int kc, .int bc, .int bo, .int ag, .int bk, .ref (b + 86), .ref (b + 87)]) := y0K
  have m3_w1 : w1 78 = aI G 131 st := y1K
  have m4_w1 : w1 79 = aI G 262 ims := y2K
  have m5_w1 : w1 80 = aZ G 2 kf := y3K
  have m6_w1 : w1 81 = aI G 80 sg := y4K
  have m7_w1 : w1 82 = aI G 64 gr2 := y5K
  have m8_w1 : w1 83 = aI G 64 mk2 := y6K
  have m9_w1 : w1 84 = aI G 64 rs := y7K
  have m10_w1 : w1 85 = aI G 8 se := y8K
  have m11_w1 : w1 86 = aI G 6272 tt := y9K
  have m12_w1 : w1 87 = aI G 49 tc := y10K
  have fr_w1 : ∀ j, (j < 77 ∨ 88 ≤ j) → w1 j = w j := fun j hj => (gK j (by omega)).trans (fr_w j hj)
  have hag := stI_ag hsI hgk
  refine r_aload_n X eX6_layTable_4 rfl ?_
  refine gf_X6_38 X eX6_layTable_5 (by omega) m2_w1 ?_
  refine r_iconst X eX6_layTable_8 (nI 0) (by decide) ?_
  refine r_iconst X eX6_layTable_9 ((0 : Int32)) (by decide) ?_
  refine r_iast X eX6_layTable_10 (by omega) m12_w1 (by omega) (by decide) (fun w13 n13_w13 uu13 => ?_)
  have m2_w13 := (uu13 77 (by omega)).trans m2_w1
  have m3_w13 := (uu13 78 (by omega)).trans m3_w1
  have m4_w13 := (uu13 79 (by omega)).trans m4_w1
  have m5_w13 := (uu13 80 (by omega)).trans m5_w1
  have m6_w13 := (uu13 81 (by omega)).trans m6_w1
  have m7_w13 := (uu13 82 (by omega)).trans m7_w1
  have m8_w13 := (uu13 83 (by omega)).trans m8_w1
  have m9_w13 := (uu13 84 (by omega)).trans m9_w1
  have m10_w13 := (uu13 85 (by omega)).trans m10_w1
  have m11_w13 := (uu13 86 (by omega)).trans m11_w1
  have fr_w13 : ∀ j, (j < 77 ∨ 88 ≤ j) → w13 j = w j := fun j hj => (uu13 j (by omega)).trans (fr_w1 j hj)
  refine r_aload_n X eX6_layTable_11 rfl ?_
  refine r_iconst X eX6_layTable_12 (nI 0) (by decide) ?_
  refine cv_X6_190 X eX6_layTable_13 (c_X6_save _ G b N w13 hN n P.1 P.2.1 sc kc bc bo ag bk st ims kf sg gr2 mk2 rs se tt (upd tc 0 ((0 : Int32))) ⟨m2_w13, m3_w13, m4_w13, m5_w13, m6_w13, m7_w13, m8_w13, m9_w13, m10_w13, m11_w13, n13_w13⟩ 0 (by omega)) (by decide) (by omega) m2_w13 rfl (Nat.le_of_ble_eq_true rfl) (fun w14 hp14 => ?_)
  obtain ⟨ttS, ⟨y0S, y1S, y2S, y3S, y4S, y5S, y6S, y7S, y8S, y9S, y10S⟩, hsS, hoS, gS⟩ := hp14
  have m15_w14 : w14 77 = .inr (6, [.ref (b + 78), .ref (b + 79), .ref (b + 80), .ref (b + 81), .int (nI n), .ref (b + 82), .ref (b + 83), .int (nI P.1), .int (nI P.2.1), .ref (b + 84), .ref (b + 85), .int sc, .int kc, .int bc, .int bo, .int ag, .int bk, .ref (b + 86), .ref (b + 87)]) := y0S
  have m16_w14 : w14 78 = aI G 131 st := y1S
  have m17_w14 : w14 79 = aI G 262 ims := y2S
  have m18_w14 : w14 80 = aZ G 2 kf := y3S
  have m19_w14 : w14 81 = aI G 80 sg := y4S
  have m20_w14 : w14 82 = aI G 64 gr2 := y5S
  have m21_w14 : w14 83 = aI G 64 mk2 := y6S
  have m22_w14 : w14 84 = aI G 64 rs := y7S
  have m23_w14 : w14 85 = aI G 8 se := y8S
  have m24_w14 : w14 86 = aI G 6272 ttS := y9S
  have m25_w14 : w14 87 = aI G 49 (upd tc 0 ((0 : Int32))) := y10S
  have fr_w14 : ∀ j, (j < 77 ∨ 88 ≤ j) → w14 j = w j := fun j hj => (gS j (by omega)).trans (fr_w13 j hj)
  have h00 : tabA lw P (fun x y => y ≤ e ∧ (x < 0 ∨ (x = 0 ∧ y < 0) ∨ (x = 0 ∧ y = 0))) ttS (upd tc 0 0) := fun x y h1 h2 h3 => by
    obtain ⟨rfl, rfl⟩ : x = 0 ∧ y = 0 := by omega
    rw [tb]
    exact ⟨tabI_of o2 o4 hag hsS, upd_self⟩
  refine r_iconst X eX6_layTable_16 (nI 0) (by decide) ?_
  refine r_istore_n X eX6_layTable_17 (Nat.le_of_ble_eq_true rfl) (L2 := [some (.ref (b + 77)), some (.int (nI a)), some (.int (nI e)), some (.int (nI 0)), none]) rfl ?_
  have lp26 : ∀ (fu : Nat) (i : Nat) (wdv hgv : Nat) (scv kcv : Int32) (grv mkv rsv sev ttv tcv : Nat → Int32) (w26 : Wd), (i ≤ a + 1) → (tabA lw P (fun r z => z ≤ e ∧ (r < i ∨ (r = i ∧ z < 0) ∨ (r = 0 ∧ z = 0))) ttv tcv) → (w26 77 = .inr (6, [.ref (b + 78), .ref (b + 79), .ref (b + 80), .ref (b + 81), .int (nI n), .ref (b + 82), .ref (b + 83), .int (nI wdv), .int (nI hgv), .ref (b + 84), .ref (b + 85), .int scv, .int kcv, .int bc, .int bo, .int ag, .int bk, .ref (b + 86), .ref (b + 87)])) → (w26 78 = aI G 131 st) → (w26 79 = aI G 262 ims) → (w26 80 = aZ G 2 kf) → (w26 81 = aI G 80 sg) → (w26 82 = aI G 64 grv) → (w26 83 = aI G 64 mkv) → (w26 84 = aI G 64 rsv) → (w26 85 = aI G 8 sev) → (w26 86 = aI G 6272 ttv) → (w26 87 = aI G 49 tcv) → (∀ j, (j < 77 ∨ 88 ≤ j) → w26 j = w j) → a + 1 - i < fu → V κ G b (N, 0, 0) w26 18 [some (.ref (b + 77)), some (.int (nI a)), some (.int (nI e)), some (.int (nI i)), none] [] := by
    intro fu
    induction fu with
    | zero => intro i wdv hgv scv kcv grv mkv rsv sev ttv tcv w26 hi hA m15_w26 m16_w26 m17_w26 m18_w26 m19_w26 m20_w26 m21_w26 m22_w26 m23_w26 m24_w26 m25_w26 fr_w26 hm; exact absurd hm (Nat.not_lt_zero _)
    | succ fu ih26 =>
      intro i wdv hgv scv kcv grv mkv rsv sev ttv tcv w26 hi hA m15_w26 m16_w26 m17_w26 m18_w26 m19_w26 m20_w26 m21_w26 m22_w26 m23_w26 m24_w26 m25_w26 fr_w26 hm
      refine r_iload_n X eX6_layTable_18 rfl ?_
      refine r_iload_n X eX6_layTable_19 rfl ?_
      refine r_icmp_gt (tgt := 51) X eX6_layTable_20 (by decide) (nI_toInt (by omega)) (nI_toInt (by omega)) (fun c_27 => ?_) (fun c_27 => ?_)
      ·
        refine r_aload_n X eX6_layTable_51 rfl ?_
        refine r_iload_n X eX6_layTable_52 rfl ?_
        refine r_iload_n X eX6_layTable_53 rfl ?_
        refine cv_X6_187 X eX6_layTable_54 (c_X6_load _ G b N w26 hN n wdv hgv scv kcv bc bo ag bk st ims kf sg grv mkv rsv sev ttv tcv ⟨m15_w26, m16_w26, m17_w26, m18_w26, m19_w26, m20_w26, m21_w26, m22_w26, m23_w26, m24_w26, m25_w26⟩ P hP e1 e2 a e ha he) (by decide) (by omega) m15_w26 rfl (Nat.le_of_ble_eq_true rfl) (fun w28 hp28 => ?_)
        obtain ⟨grA, mkA, ⟨y0A, y1A, y2A, y3A, y4A, y5A, y6A, y7A, y8A, y9A, y10A⟩, hlA, gA⟩ := hp28
        have m29_w28 : w28 77 = .inr (6, [.ref (b + 78), .ref (b + 79), .ref (b + 80), .ref (b + 81), .int (nI n), .ref (b + 82), .ref (b + 83), .int (nI (P.1 - a)), .int (nI (P.2.1 - e)), .ref (b + 84), .ref (b + 85), .int scv, .int kcv, .int bc, .int bo, .int ag, .int bk, .ref (b + 86), .ref (b + 87)]) := y0A
        have m30_w28 : w28 78 = aI G 131 st := y1A
        have m31_w28 : w28 79 = aI G 262 ims := y2A
        have m32_w28 : w28 80 = aZ G 2 kf := y3A
        have m33_w28 : w28 81 = aI G 80 sg := y4A
        have m34_w28 : w28 82 = aI G 64 grA := y5A
        have m35_w28 : w28 83 = aI G 64 mkA := y6A
        have m36_w28 : w28 84 = aI G 64 rsv := y7A
        have m37_w28 : w28 85 = aI G 8 sev := y8A
        have m38_w28 : w28 86 = aI G 6272 ttv := y9A
        have m39_w28 : w28 87 = aI G 49 tcv := y10A
        have fr_w28 : ∀ j, (j < 77 ∨ 88 ≤ j) → w28 j = w j := fun j hj => (gA j (by omega)).trans (fr_w26 j hj)
        exact ret _ _ _ _ eX6_layTable_57 (⟨_, _, _, _, _, _, _, _, ⟨m29_w28, m30_w28, m31_w28, m32_w28, m33_w28, m34_w28, m35_w28, m36_w28, m37_w28, m38_w28, m39_w28⟩, tabI_ag (by have hd := tb_dim lw P a e; omega) (by have hd := tb_dim lw P a e; omega) (hA a e (by omega) (by omega) ⟨Nat.le_refl e, by omega⟩).1 hlA, (hA a e (by omega) (by omega) ⟨Nat.le_refl e, by omega⟩).2, fr_w28⟩)
      ·
        refine r_iconst X eX6_layTable_23 (nI 0) (by decide) ?_
        refine r_istore X eX6_layTable_24 (Nat.le_of_ble_eq_true rfl) (L2 := [some (.ref (b + 77)), some (.int (nI a)), some (.int (nI e)), some (.int (nI i)), some (.int (nI 0))]) rfl ?_
        have lp40 : ∀ (fu : Nat) (y : Nat) (wdu hgu : Nat) (scu kcu : Int32) (gru mku rsu seu ttu tcu : Nat → Int32) (w40 : Wd), (y ≤ e + 1) → (tabA lw P (fun r z => z ≤ e ∧ (r < i ∨ (r = i ∧ z < y) ∨ (r = 0 ∧ z = 0))) ttu tcu) → (w40 77 = .inr (6, [.ref (b + 78), .ref (b + 79), .ref (b + 80), .ref (b + 81), .int (nI n), .ref (b + 82), .ref (b + 83), .int (nI wdu), .int (nI hgu), .ref (b + 84), .ref (b + 85), .int scu, .int kcu, .int bc, .int bo, .int ag, .int bk, .ref (b + 86), .ref (b + 87)])) → (w40 78 = aI G 131 st) → (w40 79 = aI G 262 ims) → (w40 80 = aZ G 2 kf) → (w40 81 = aI G 80 sg) → (w40 82 = aI G 64 gru) → (w40 83 = aI G 64 mku) → (w40 84 = aI G 64 rsu) → (w40 85 = aI G 8 seu) → (w40 86 = aI G 6272 ttu) → (w40 87 = aI G 49 tcu) → (∀ j, (j < 77 ∨ 88 ≤ j) → w40 j = w j) → e + 1 - y < fu → V κ G b (N, 0, 0) w40 26 [some (.ref (b + 77)), some (.int (nI a)), some (.int (nI e)), some (.int (nI i)), some (.int (nI y))] [] := by
          intro fu
          induction fu with
          | zero => intro y wdu hgu scu kcu gru mku rsu seu ttu tcu w40 hy hB m15_w40 m16_w40 m17_w40 m18_w40 m19_w40 m20_w40 m21_w40 m22_w40 m23_w40 m24_w40 m25_w40 fr_w40 hm; exact absurd hm (Nat.not_lt_zero _)
          | succ fu ih40 =>
            intro y wdu hgu scu kcu gru mku rsu seu ttu tcu w40 hy hB m15_w40 m16_w40 m17_w40 m18_w40 m19_w40 m20_w40 m21_w40 m22_w40 m23_w40 m24_w40 m25_w40 fr_w40 hm
            refine r_iload X eX6_layTable_26 rfl ?_
            refine r_iload_n X eX6_layTable_28 rfl ?_
            refine r_icmp_gt (tgt := 45) X eX6_layTable_29 (by decide) (nI_toInt (by omega)) (nI_toInt (by omega)) (fun c_41 => ?_) (fun c_41 => ?_)
            ·
              refine r_iinc X eX6_layTable_45 rfl (nI (i + 1)) (inc_nI _) (L2 := [some (.ref (b + 77)), some (.int (nI a)), some (.int (nI e)), some (.int (nI (i + 1))), some (.int (nI y))]) rfl ?_
              refine r_goto (tgt := 18) X eX6_layTable_48 (by decide) ?_
              refine r_fg 4 (L2 := [some (.ref (b + 77)), some (.int (nI a)), some (.int (nI e)), some (.int (nI (i + 1))), none]) rfl ?_
              exact ih26 (i + 1) wdu hgu scu kcu gru mku rsu seu ttu tcu w40 (by omega) (fun x z h1 h2 h3 => hB x z h1 h2 ⟨h3.1, by omega⟩) m15_w40 m16_w40 m17_w40 m18_w40 m19_w40 m20_w40 m21_w40 m22_w40 m23_w40 m24_w40 m25_w40 fr_w40 (by omega)
            ·
              refine r_aload_n X eX6_layTable_32 rfl ?_
              refine r_iload_n X eX6_layTable_33 rfl ?_
              refine r_iload X eX6_layTable_34 rfl ?_
              refine cv_X6_193 X eX6_layTable_36 (c_X6_layPlace _ G b N w40 hN n wdu hgu scu kcu bc bo ag bk st ims kf sg gru mku rsu seu ttu tcu ⟨m15_w40, m16_w40, m17_w40, m18_w40, m19_w40, m20_w40, m21_w40, m22_w40, m23_w40, m24_w40, m25_w40⟩ P hP e1 e2 lw hlw hst i y (by omega) (by omega) (fun h1 h2 => hB i y (by omega) (by omega) ⟨by omega, by omega⟩) (fun h1 => hB (i - 1) y (by omega) (by omega) ⟨by omega, by omega⟩) (fun h1 => hB i (y - 1) (by omega) (by omega) ⟨by omega, by omega⟩)) (by decide) (by omega) m15_w40 rfl (Nat.le_of_ble_eq_true rfl) (fun w42 hp42 => ?_)
              obtain ⟨wdL, hgL, scL, kcL, grL, mkL, rsL, seL, ttL, tcL, ⟨y0L, y1L, y2L, y3L, y4L, y5L, y6L, y7L, y8L, y9L, y10L⟩, hL1, hL2, hL3, gL⟩ := hp42
              have m43_w42 : w42 77 = .inr (6, [.ref (b + 78), .ref (b + 79), .ref (b + 80), .ref (b + 81), .int (nI n), .ref (b + 82), .ref (b + 83), .int (nI wdL), .int (nI hgL), .ref (b + 84), .ref (b + 85), .int scL, .int kcL, .int bc, .int bo, .int ag, .int bk, .ref (b + 86), .ref (b + 87)]) := y0L
              have m44_w42 : w42 78 = aI G 131 st := y1L
              have m45_w42 : w42 79 = aI G 262 ims := y2L
              have m46_w42 : w42 80 = aZ G 2 kf := y3L
              have m47_w42 : w42 81 = aI G 80 sg := y4L
              have m48_w42 : w42 82 = aI G 64 grL := y5L
              have m49_w42 : w42 83 = aI G 64 mkL := y6L
              have m50_w42 : w42 84 = aI G 64 rsL := y7L
              have m51_w42 : w42 85 = aI G 8 seL := y8L
              have m52_w42 : w42 86 = aI G 6272 ttL := y9L
              have m53_w42 : w42 87 = aI G 49 tcL := y10L
              have fr_w42 : ∀ j, (j < 77 ∨ 88 ≤ j) → w42 j = w j := fun j hj => (gL j (by omega)).trans (fr_w40 j hj)
              refine r_iinc X eX6_layTable_39 rfl (nI (y + 1)) (inc_nI _) (L2 := [some (.ref (b + 77)), some (.int (nI a)), some (.int (nI e)), some (.int (nI i)), some (.int (nI (y + 1)))]) rfl ?_
              refine r_goto (tgt := 26) X eX6_layTable_42 (by decide) ?_
              exact ih40 (y + 1) wdL hgL scL kcL grL mkL rsL seL ttL tcL w42 (by omega) (tabA_st hP hB (by omega) (by omega) hL1 hL2 hL3 (fun x z h3 => by omega)) m43_w42 m44_w42 m45_w42 m46_w42 m47_w42 m48_w42 m49_w42 m50_w42 m51_w42 m52_w42 m53_w42 fr_w42 (by omega)
        exact lp40 _ 0 wdv hgv scv kcv grv mkv rsv sev ttv tcv w26 (by omega) hA m15_w26 m16_w26 m17_w26 m18_w26 m19_w26 m20_w26 m21_w26 m22_w26 m23_w26 m24_w26 m25_w26 fr_w26 (Nat.lt_succ_self _)
  exact lp26 _ 0 P.1 P.2.1 sc kc gr2 mk2 rs se ttS (upd tc 0 ((0 : Int32))) w14 (by omega) h00 m15_w14 m16_w14 m17_w14 m18_w14 m19_w14 m20_w14 m21_w14 m22_w14 m23_w14 m24_w14 m25_w14 fr_w14 (Nat.lt_succ_self _)
set_option maxHeartbeats 4000000 in
set_option maxRecDepth 100000 in
theorem c_X6_table (l : Launch) (G : Gs) (b N : Nat) (w : Wd) (hN : 88 ≤ N) (lw : Nat) (P : Pc) (n : Nat) (sg : Nat → Int32) (im : Nat → Nat × Pc) (kf : Nat → Int32) (hs : sysM G b w (lw, P, n, sg, im, kf)) (hkb : ∀ i, i < 2 → kf i = 0 ∨ kf i = 1) (x y what : Int32) : CI l yX6_table cX6_table 6 (some .int) 13 G b N w [.ref (b + 77), .int x, .int y, .int what] (fun r w2 => r = aTable lw P x y what ∧ sysM G b w2 (lw, P, n, sg, im, kf) ∧ ∀ j, (j < 77 ∨ 88 ≤ j) → w2 j = w j) := by
  obtain ⟨wd, hg, sc, kc, bc, bo, ag, bk, st, ims, gr, mk, rs, se, tt, tc, ⟨m0, m1, m2, m3, m4, m5, m6, m7, m8, m9, m10⟩, hst, himg, hn8⟩ := id hs
  dsimp only at m0 m3 m4 hst himg hn8
  obtain ⟨s1, e1, e2, e3, hP, hlw⟩ := id hst
  obtain ⟨o1, o2, o3, o4⟩ := id hP
  refine CI_of (L0 := [some (.ref (b + 77)), some (.int x), some (.int y), some (.int what), none, none]) (by decide) rfl (by simp [Value.category]) rfl (Nat.le_of_ble_eq_true rfl) rfl (fun κ X ret => ?_)
  have fr_w : ∀ j, (j < 77 ∨ 88 ≤ j) → w j = w j := fun _ _ => rfl
  refine r_aload_n X eX6_table_0 rfl ?_
  refine r_iload_n X eX6_table_1 rfl ?_
  refine r_iload_n X eX6_table_2 rfl ?_
  refine cp_X6_177 X eX6_table_3 (c_X6_canGo _ G b N w hN n wd hg sc kc bc bo ag bk st ims kf sg gr mk rs se tt tc ⟨m0, m1, m2, m3, m4, m5, m6, m7, m8, m9, m10⟩ P hP e1 e2 x y) (by decide) (by omega) m0 rfl (Nat.le_of_ble_eq_true rfl) ?_
  refine r_ifeq_b (tgt := 24) X eX6_table_6 (by decide) (fun c_1 => ?_) (fun c_1 => ?_)
  ·
    refine r_bipush X eX6_table_24 ((-2 : Int32)) (by decide) ?_
    exact ret _ _ _ _ _ eX6_table_26 (⟨(if_neg (fun q => c_1 q.1)).symm, ⟨_, _, _, _, _, _, _, _, _, _, _, _, _, _, _, _, ⟨m0, m1, m2, m3, m4, m5, m6, m7, m8, m9, m10⟩, hst, himg, hn8⟩, fr_w⟩)
  ·
    refine r_iload_n X eX6_table_9 rfl ?_
    refine r_if_eq (tgt := 27) X eX6_table_10 (by decide) rfl (fun c_2 => ?_) (fun c_2 => ?_)
    ·
      obtain ⟨na, hna, rfl, hi_na⟩ := i2n (x := x) (by omega)
      obtain ⟨ne, hne, rfl, hi_ne⟩ := i2n (x := y) (by omega)
      obtain ⟨nt, hnt, rfl, hi_nt⟩ := i2n (x := what) (by omega)
      refine r_aload_n X eX6_table_27 rfl ?_
      refine r_iload_n X eX6_table_28 rfl ?_
      refine r_iload_n X eX6_table_29 rfl ?_
      refine cv_X6_196 X eX6_table_30 (c_X6_layTable _ G b N w hN n wd hg sc kc bc bo ag bk st ims kf sg gr mk rs se tt tc ⟨m0, m1, m2, m3, m4, m5, m6, m7, m8, m9, m10⟩ P hP e1 e2 lw hlw e3 hst na ne (by omega) (by omega)) (by decide) (by omega) m0 rfl (Nat.le_of_ble_eq_true rfl) (fun w3 hp3 => ?_)
      obtain ⟨scL, kcL, grL, mkL, rsL, seL, ttL, tcL, ⟨y0L, y1L, y2L, y3L, y4L, y5L, y6L, y7L, y8L, y9L, y10L⟩, hagL, htcL, gL⟩ := hp3
      have m4_w3 : w3 77 = .inr (6, [.ref (b + 78), .ref (b + 79), .ref (b + 80), .ref (b + 81), .int (nI n), .ref (b + 82), .ref (b + 83), .int (nI (P.1 - na)), .int (nI (P.2.1 - ne)), .ref (b + 84), .ref (b + 85), .int scL, .int kcL, .int bc, .int bo, .int ag, .int bk, .ref (b + 86), .ref (b + 87)]) := y0L
      have m5_w3 : w3 78 = aI G 131 st := y1L
      have m6_w3 : w3 79 = aI G 262 ims := y2L
      have m7_w3 : w3 80 = aZ G 2 kf := y3L
      have m8_w3 : w3 81 = aI G 80 sg := y4L
      have m9_w3 : w3 82 = aI G 64 grL := y5L
      have m10_w3 : w3 83 = aI G 64 mkL := y6L
      have m11_w3 : w3 84 = aI G 64 rsL := y7L
      have m12_w3 : w3 85 = aI G 8 seL := y8L
      have m13_w3 : w3 86 = aI G 6272 ttL := y9L
      have m14_w3 : w3 87 = aI G 49 tcL := y10L
      have fr_w3 : ∀ j, (j < 77 ∨ 88 ≤ j) → w3 j = w j := fun j hj => (gL j (by omega)).trans (fr_w j hj)
      have hdm := tb_dim lw P na ne
      refine r_iload_n X eX6_table_33 rfl ?_
      refine r_if_ne (tgt := 53) X eX6_table_34 (by decide) (nI_toInt (by omega)) (fun c_15 => ?_) (fun c_15 => ?_)
      ·
        refine r_iload_n X eX6_table_53 rfl ?_
        refine r_bipush X eX6_table_54 (nI 10) (by decide) ?_
        refine r_idiv X eX6_table_56 (nI_ne0 (by omega) (by omega)) (nI (nt / 10)) (pk_div (by omega) (by omega) (by omega)) ?_
        refine r_iconst X eX6_table_57 (nI 1) (by decide) ?_
        refine r_isub X eX6_table_58 (nP (nt / 10)) (subP _) ?_
        refine r_istore X eX6_table_59 (Nat.le_of_ble_eq_true rfl) (L2 := [some (.ref (b + 77)), some (.int (nI na)), some (.int (nI ne)), some (.int (nI nt)), some (.int (nP (nt / 10))), none]) rfl ?_
        refine r_iload_n X eX6_table_61 rfl ?_
        refine r_bipush X eX6_table_62 (nI 10) (by decide) ?_
        refine r_irem X eX6_table_64 (nI_ne0 (by omega) (by omega)) (nI (nt % 10)) (pk_rem (by omega) (by omega) (by omega)) ?_
        refine r_istore X eX6_table_65 (Nat.le_of_ble_eq_true rfl) (L2 := [some (.ref (b + 77)), some (.int (nI na)), some (.int (nI ne)), some (.int (nI nt)), some (.int (nP (nt / 10))), some (.int (nI (nt % 10)))]) rfl ?_
        rw [nP_pos (show 0 < nt / 10 by omega)]
        refine r_iload X eX6_table_67 rfl ?_
        refine r_aload_n X eX6_table_69 rfl ?_
        refine gf_X6_45 X eX6_table_70 (by omega) m4_w3 ?_
        refine r_icmp_ge (tgt := 96) X eX6_table_73 (by decide) (nI_toInt (by omega)) (nI_toInt (by omega)) (fun c_16 => ?_) (fun c_16 => ?_)
        ·
          refine r_bipush X eX6_table_96 ((-6 : Int32)) (by decide) ?_
          exact ret _ _ _ _ _ eX6_table_98 (⟨by rw [aTable, if_pos ⟨c_1, by omega⟩, if_neg (by omega), tn_nI hna, tn_nI hne, tn_nI hnt, if_neg (by omega)], ⟨_, _, _, _, _, _, _, _, _, _, _, _, _, _, _, _, ⟨m4_w3, m5_w3, m6_w3, m7_w3, m8_w3, m9_w3, m10_w3, m11_w3, m12_w3, m13_w3, m14_w3⟩, hst, himg, hn8⟩, fr_w3⟩)
        ·
          refine r_iload X eX6_table_76 rfl ?_
          refine r_aload_n X eX6_table_78 rfl ?_
          refine gf_X6_49 X eX6_table_79 (by omega) m4_w3 ?_
          refine r_icmp_ge (tgt := 96) X eX6_table_82 (by decide) (nI_toInt (by omega)) (nI_toInt (by omega)) (fun c_17 => ?_) (fun c_17 => ?_)
          ·
            refine r_bipush X eX6_table_96 ((-6 : Int32)) (by decide) ?_
            exact ret _ _ _ _ _ eX6_table_98 (⟨by rw [aTable, if_pos ⟨c_1, by omega⟩, if_neg (by omega), tn_nI hna, tn_nI hne, tn_nI hnt, if_neg (by omega)], ⟨_, _, _, _, _, _, _, _, _, _, _, _, _, _, _, _, ⟨m4_w3, m5_w3, m6_w3, m7_w3, m8_w3, m9_w3, m10_w3, m11_w3, m12_w3, m13_w3, m14_w3⟩, hst, himg, hn8⟩, fr_w3⟩)
          ·
            refine r_aload_n X eX6_table_85 rfl ?_
            refine r_iload X eX6_table_86 rfl ?_
            refine r_iload X eX6_table_88 rfl ?_
            refine cp_X6_56 X eX6_table_90 (c_X6_greyAt _ G b N w3 hN n (P.1 - na) (P.2.1 - ne) scL kcL bc bo ag bk st ims kf sg grL mkL rsL seL ttL tcL ⟨m4_w3, m5_w3, m6_w3, m7_w3, m8_w3, m9_w3, m10_w3, m11_w3, m12_w3, m13_w3, m14_w3⟩ (nt / 10 - 1) (nt % 10) (by omega) (by omega)) (by decide) (by omega) m4_w3 rfl (Nat.le_of_ble_eq_true rfl) ?_
            refine r_top (y := (tb lw P na ne).2.2.2.1 (nt / 10 - 1) (nt % 10)) (hagL (nt % 10) (nt / 10 - 1) (show nt % 10 < (tb lw P na ne).2.2.1 by omega) (show nt / 10 - 1 < (tb lw P na ne).2.1 by omega)).1 ?_
            refine r_goto (tgt := 98) X eX6_table_93 (by decide) ?_
            exact ret _ _ _ _ _ eX6_table_98 (⟨by rw [aTable, if_pos ⟨c_1, by omega⟩, if_neg (by omega), tn_nI hna, tn_nI hne, tn_nI hnt, if_pos (by omega)], ⟨_, _, _, _, _, _, _, _, _, _, _, _, _, _, _, _, ⟨m4_w3, m5_w3, m6_w3, m7_w3, m8_w3, m9_w3, m10_w3, m11_w3, m12_w3, m13_w3, m14_w3⟩, hst, himg, hn8⟩, fr_w3⟩)
      ·
        refine r_aload_n X eX6_table_37 rfl ?_
        refine gf_X6_38 X eX6_table_38 (by omega) m4_w3 ?_
        refine r_bipush X eX6_table_41 (nI 7) (by decide) ?_
        refine r_iload_n X eX6_table_43 rfl ?_
        refine r_imul X eX6_table_44 (nI (7 * na)) (pk_mul _ _) ?_
        refine r_iload_n X eX6_table_45 rfl ?_
        refine r_iadd X eX6_table_46 (nI (7 * na + ne)) (addN rfl) ?_
        refine r_iald X eX6_table_47 (by omega) m14_w3 (by omega) (by decide) ?_
        refine r_top (y := (tb lw P na ne).1) htcL ?_
        refine r_sipush X eX6_table_48 ((10000 : Int32)) (by decide) ?_
        refine r_iadd X eX6_table_51 (((tb lw P na ne).1) + ((10000 : Int32))) rfl ?_
        exact ret _ _ _ _ _ eX6_table_52 (⟨by rw [aTable, if_pos ⟨c_1, by omega⟩, if_pos (by omega), tn_nI hna, tn_nI hne], ⟨_, _, _, _, _, _, _, _, _, _, _, _, _, _, _, _, ⟨m4_w3, m5_w3, m6_w3, m7_w3, m8_w3, m9_w3, m10_w3, m11_w3, m12_w3, m13_w3, m14_w3⟩, hst, himg, hn8⟩, fr_w3⟩)
    ·
      refine r_iload_n X eX6_table_13 rfl ?_
      refine r_bipush X eX6_table_14 (nI 10) (by decide) ?_
      refine r_bipush X eX6_table_16 (nI 89) (by decide) ?_
      refine cp_X6_41 X eX6_table_18 (c_X6_in _ G b N w (what) (nI 10) (nI 89) (what.toInt) (10) (89) rfl (nI_toInt (by omega)) (nI_toInt (by omega))) (by decide) rfl (Nat.le_of_ble_eq_true rfl) ?_
      refine r_ifne_b (tgt := 27) X eX6_table_21 (by decide) (fun c_18 => ?_) (fun c_18 => ?_)
      ·
        obtain ⟨na, hna, rfl, hi_na⟩ := i2n (x := x) (by omega)
        obtain ⟨ne, hne, rfl, hi_ne⟩ := i2n (x := y) (by omega)
        obtain ⟨nt, hnt, rfl, hi_nt⟩ := i2n (x := what) (by omega)
        refine r_aload_n X eX6_table_27 rfl ?_
        refine r_iload_n X eX6_table_28 rfl ?_
        refine r_iload_n X eX6_table_29 rfl ?_
        refine cv_X6_196 X eX6_table_30 (c_X6_layTable _ G b N w hN n wd hg sc kc bc bo ag bk st ims kf sg gr mk rs se tt tc ⟨m0, m1, m2, m3, m4, m5, m6, m7, m8, m9, m10⟩ P hP e1 e2 lw hlw e3 hst na ne (by omega) (by omega)) (by decide) (by omega) m0 rfl (Nat.le_of_ble_eq_true rfl) (fun w19 hp19 => ?_)
        obtain ⟨scL, kcL, grL, mkL, rsL, seL, ttL, tcL, ⟨y0L, y1L, y2L, y3L, y4L, y5L, y6L, y7L, y8L, y9L, y10L⟩, hagL, htcL, gL⟩ := hp19
        have m20_w19 : w19 77 = .inr (6, [.ref (b + 78), .ref (b + 79), .ref (b + 80), .ref (b + 81), .int (nI n), .ref (b + 82), .ref (b + 83), .int (nI (P.1 - na)), .int (nI (P.2.1 - ne)), .ref (b + 84), .ref (b + 85), .int scL, .int kcL, .int bc, .int bo, .int ag, .int bk, .ref (b + 86), .ref (b + 87)]) := y0L
        have m21_w19 : w19 78 = aI G 131 st := y1L
        have m22_w19 : w19 79 = aI G 262 ims := y2L
        have m23_w19 : w19 80 = aZ G 2 kf := y3L
        have m24_w19 : w19 81 = aI G 80 sg := y4L
        have m25_w19 : w19 82 = aI G 64 grL := y5L
        have m26_w19 : w19 83 = aI G 64 mkL := y6L
        have m27_w19 : w19 84 = aI G 64 rsL := y7L
        have m28_w19 : w19 85 = aI G 8 seL := y8L
        have m29_w19 : w19 86 = aI G 6272 ttL := y9L
        have m30_w19 : w19 87 = aI G 49 tcL := y10L
        have fr_w19 : ∀ j, (j < 77 ∨ 88 ≤ j) → w19 j = w j := fun j hj => (gL j (by omega)).trans (fr_w j hj)
        have hdm := tb_dim lw P na ne
        refine r_iload_n X eX6_table_33 rfl ?_
        refine r_if_ne (tgt := 53) X eX6_table_34 (by decide) (nI_toInt (by omega)) (fun c_31 => ?_) (fun c_31 => ?_)
        ·
          refine r_iload_n X eX6_table_53 rfl ?_
          refine r_bipush X eX6_table_54 (nI 10) (by decide) ?_
          refine r_idiv X eX6_table_56 (nI_ne0 (by omega) (by omega)) (nI (nt / 10)) (pk_div (by omega) (by omega) (by omega)) ?_
          refine r_iconst X eX6_table_57 (nI 1) (by decide) ?_
          refine r_isub X eX6_table_58 (nP (nt / 10)) (subP _) ?_
          refine r_istore X eX6_table_59 (Nat.le_of_ble_eq_true rfl) (L2 := [some (.ref (b + 77)), some (.int (nI na)), some (.int (nI ne)), some (.int (nI nt)), some (.int (nP (nt / 10))), none]) rfl ?_
          refine r_iload_n X eX6_table_61 rfl ?_
          refine r_bipush X eX6_table_62 (nI 10) (by decide) ?_
          refine r_irem X eX6_table_64 (nI_ne0 (by omega) (by omega)) (nI (nt % 10)) (pk_rem (by omega) (by omega) (by omega)) ?_
          refine r_istore X eX6_table_65 (Nat.le_of_ble_eq_true rfl) (L2 := [some (.ref (b + 77)), some (.int (nI na)), some (.int (nI ne)), some (.int (nI nt)), some (.int (nP (nt / 10))), some (.int (nI (nt % 10)))]) rfl ?_
          rw [nP_pos (show 0 < nt / 10 by omega)]
          refine r_iload X eX6_table_67 rfl ?_
          refine r_aload_n X eX6_table_69 rfl ?_
          refine gf_X6_45 X eX6_table_70 (by omega) m20_w19 ?_
          refine r_icmp_ge (tgt := 96) X eX6_table_73 (by decide) (nI_toInt (by omega)) (nI_toInt (by omega)) (fun c_32 => ?_) (fun c_32 => ?_)
          ·
            refine r_bipush X eX6_table_96 ((-6 : Int32)) (by decide) ?_
            exact ret _ _ _ _ _ eX6_table_98 (⟨by rw [aTable, if_pos ⟨c_1, by omega⟩, if_neg (by omega), tn_nI hna, tn_nI hne, tn_nI hnt, if_neg (by omega)], ⟨_, _, _, _, _, _, _, _, _, _, _, _, _, _, _, _, ⟨m20_w19, m21_w19, m22_w19, m23_w19, m24_w19, m25_w19, m26_w19, m27_w19, m28_w19, m29_w19, m30_w19⟩, hst, himg, hn8⟩, fr_w19⟩)
          ·
            refine r_iload X eX6_table_76 rfl ?_
            refine r_aload_n X eX6_table_78 rfl ?_
            refine gf_X6_49 X eX6_table_79 (by omega) m20_w19 ?_
            refine r_icmp_ge (tgt := 96) X eX6_table_82 (by decide) (nI_toInt (by omega)) (nI_toInt (by omega)) (fun c_33 => ?_) (fun c_33 => ?_)
            ·
              refine r_bipush X eX6_table_96 ((-6 : Int32)) (by decide) ?_
              exact ret _ _ _ _ _ eX6_table_98 (⟨by rw [aTable, if_pos ⟨c_1, by omega⟩, if_neg (by omega), tn_nI hna, tn_nI hne, tn_nI hnt, if_neg (by omega)], ⟨_, _, _, _, _, _, _, _, _, _, _, _, _, _, _, _, ⟨m20_w19, m21_w19, m22_w19, m23_w19, m24_w19, m25_w19, m26_w19, m27_w19, m28_w19, m29_w19, m30_w19⟩, hst, himg, hn8⟩, fr_w19⟩)
            ·
              refine r_aload_n X eX6_table_85 rfl ?_
              refine r_iload X eX6_table_86 rfl ?_
              refine r_iload X eX6_table_88 rfl ?_
              refine cp_X6_56 X eX6_table_90 (c_X6_greyAt _ G b N w19 hN n (P.1 - na) (P.2.1 - ne) scL kcL bc bo ag bk st ims kf sg grL mkL rsL seL ttL tcL ⟨m20_w19, m21_w19, m22_w19, m23_w19, m24_w19, m25_w19, m26_w19, m27_w19, m28_w19, m29_w19, m30_w19⟩ (nt / 10 - 1) (nt % 10) (by omega) (by omega)) (by decide) (by omega) m20_w19 rfl (Nat.le_of_ble_eq_true rfl) ?_
              refine r_top (y := (tb lw P na ne).2.2.2.1 (nt / 10 - 1) (nt % 10)) (hagL (nt % 10) (nt / 10 - 1) (show nt % 10 < (tb lw P na ne).2.2.1 by omega) (show nt / 10 - 1 < (tb lw P na ne).2.1 by omega)).1 ?_
              refine r_goto (tgt := 98) X eX6_table_93 (by decide) ?_
              exact ret _ _ _ _ _ eX6_table_98 (⟨by rw [aTable, if_pos ⟨c_1, by omega⟩, if_neg (by omega), tn_nI hna, tn_nI hne, tn_nI hnt, if_pos (by omega)], ⟨_, _, _, _, _, _, _, _, _, _, _, _, _, _, _, _, ⟨m20_w19, m21_w19, m22_w19, m23_w19, m24_w19, m25_w19, m26_w19, m27_w19, m28_w19, m29_w19, m30_w19⟩, hst, himg, hn8⟩, fr_w19⟩)
        ·
          refine r_aload_n X eX6_table_37 rfl ?_
          refine gf_X6_38 X eX6_table_38 (by omega) m20_w19 ?_
          refine r_bipush X eX6_table_41 (nI 7) (by decide) ?_
          refine r_iload_n X eX6_table_43 rfl ?_
          refine r_imul X eX6_table_44 (nI (7 * na)) (pk_mul _ _) ?_
          refine r_iload_n X eX6_table_45 rfl ?_
          refine r_iadd X eX6_table_46 (nI (7 * na + ne)) (addN rfl) ?_
          refine r_iald X eX6_table_47 (by omega) m30_w19 (by omega) (by decide) ?_
          refine r_top (y := (tb lw P na ne).1) htcL ?_
          refine r_sipush X eX6_table_48 ((10000 : Int32)) (by decide) ?_
          refine r_iadd X eX6_table_51 (((tb lw P na ne).1) + ((10000 : Int32))) rfl ?_
          exact ret _ _ _ _ _ eX6_table_52 (⟨by rw [aTable, if_pos ⟨c_1, by omega⟩, if_pos (by omega), tn_nI hna, tn_nI hne], ⟨_, _, _, _, _, _, _, _, _, _, _, _, _, _, _, _, ⟨m20_w19, m21_w19, m22_w19, m23_w19, m24_w19, m25_w19, m26_w19, m27_w19, m28_w19, m29_w19, m30_w19⟩, hst, himg, hn8⟩, fr_w19⟩)
      ·
        refine r_bipush X eX6_table_24 ((-2 : Int32)) (by decide) ?_
        exact ret _ _ _ _ _ eX6_table_26 (⟨(if_neg (fun q => absurd q.2 (by omega))).symm, ⟨_, _, _, _, _, _, _, _, _, _, _, _, _, _, _, _, ⟨m0, m1, m2, m3, m4, m5, m6, m7, m8, m9, m10⟩, hst, himg, hn8⟩, fr_w⟩)
