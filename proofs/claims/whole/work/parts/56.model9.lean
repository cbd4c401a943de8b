theorem oV_s {t v : Nat} (h : 0 < t) : oV t v = v / 2 ^ (t - 1) % 2 :: oV (t - 1) v := by
  obtain ⟨u, rfl⟩ : ∃ u, t = u + 1 := ⟨t - 1, by omega⟩
  rfl
theorem bts_le (v : Nat) : bts v ≤ 6 := by
  simp only [bts]
  omega
set_option maxHeartbeats 4000000 in
set_option maxRecDepth 100000 in
theorem c_X6_bits (l : Launch) (G : Gs) (b N : Nat) (w : Wd) (v : Nat) (hv : v < 64) : CI l yX6_bits cX6_bits 3 (some .int) 0 G b N w [.int (nI v)] (fun r w2 => r = nI (bts v) ∧ w2 = w) := by
  refine CI_of (L0 := [some (.int (nI v)), none, none]) (by decide) rfl (by simp [Value.category]) rfl (Nat.le_of_ble_eq_true rfl) rfl (fun κ X ret => ?_)
  refine r_iconst X eX6_bits_0 (nI 0) (by decide) ?_
  refine r_istore_n X eX6_bits_1 (Nat.le_of_ble_eq_true rfl) (L2 := [some (.int (nI v)), some (.int (nI 0)), none]) rfl ?_
  refine r_iconst X eX6_bits_2 (nI 0) (by decide) ?_
  refine r_istore_n X eX6_bits_3 (Nat.le_of_ble_eq_true rfl) (L2 := [some (.int (nI v)), some (.int (nI 0)), some (.int (nI 0))]) rfl ?_
  refine r_iload_n X eX6_bits_4 rfl ?_
  refine r_bipush X eX6_bits_5 (nI 6) (by decide) ?_
  refine r_icmp_ge (tgt := 24) X eX6_bits_7 (by decide) (nI_toInt (by omega)) (nI_toInt (by omega)) (fun c_1 => absurd c_1 (by omega)) (fun c_1 => ?_)
  refine r_iload_n X eX6_bits_10 rfl ?_
  refine r_iload_n X eX6_bits_11 rfl ?_
  refine r_iload_n X eX6_bits_12 rfl ?_
  refine r_ishr X eX6_bits_13 ((nI v) >>> ((nI 0) &&& 31)) rfl ?_
  refine r_iconst X eX6_bits_14 (nI 1) (by decide) ?_
  refine r_iand X eX6_bits_15 (nI (v / 2 ^ 0 % 2)) (bit_tab v hv 0 (by omega)) ?_
  refine r_iadd X eX6_bits_16 (nI (0 + (v / 2 ^ 0 % 2))) (addN (by omega)) ?_
  refine r_istore_n X eX6_bits_17 (Nat.le_of_ble_eq_true rfl) (L2 := [some (.int (nI v)), some (.int (nI (0 + (v / 2 ^ 0 % 2)))), some (.int (nI 0))]) rfl ?_
  refine r_iinc X eX6_bits_18 rfl (nI 1) (inc_nI _) (L2 := [some (.int (nI v)), some (.int (nI (0 + (v / 2 ^ 0 % 2)))), some (.int (nI 1))]) rfl ?_
  refine r_goto (tgt := 4) X eX6_bits_21 (by decide) ?_
  refine r_iload_n X eX6_bits_4 rfl ?_
  refine r_bipush X eX6_bits_5 (nI 6) (by decide) ?_
  refine r_icmp_ge (tgt := 24) X eX6_bits_7 (by decide) (nI_toInt (by omega)) (nI_toInt (by omega)) (fun c_2 => absurd c_2 (by omega)) (fun c_2 => ?_)
  refine r_iload_n X eX6_bits_10 rfl ?_
  refine r_iload_n X eX6_bits_11 rfl ?_
  refine r_iload_n X eX6_bits_12 rfl ?_
  refine r_ishr X eX6_bits_13 ((nI v) >>> ((nI 1) &&& 31)) rfl ?_
  refine r_iconst X eX6_bits_14 (nI 1) (by decide) ?_
  refine r_iand X eX6_bits_15 (nI (v / 2 ^ 1 % 2)) (bit_tab v hv 1 (by omega)) ?_
  refine r_iadd X eX6_bits_16 (nI ((0 + (v / 2 ^ 0 % 2)) + (v / 2 ^ 1 % 2))) (addN (by omega)) ?_
  refine r_istore_n X eX6_bits_17 (Nat.le_of_ble_eq_true rfl) (L2 := [some (.int (nI v)), some (.int (nI ((0 + (v / 2 ^ 0 % 2)) + (v / 2 ^ 1 % 2)))), some (.int (nI 1))]) rfl ?_
  refine r_iinc X eX6_bits_18 rfl (nI 2) (inc_nI _) (L2 := [some (.int (nI v)), some (.int (nI ((0 + (v / 2 ^ 0 % 2)) + (v / 2 ^ 1 % 2)))), some (.int (nI 2))]) rfl ?_
  refine r_goto (tgt := 4) X eX6_bits_21 (by decide) ?_
  refine r_iload_n X eX6_bits_4 rfl ?_
  refine r_bipush X eX6_bits_5 (nI 6) (by decide) ?_
  refine r_icmp_ge (tgt := 24) X eX6_bits_7 (by decide) (nI_toInt (by omega)) (nI_toInt (by omega)) (fun c_3 => absurd c_3 (by omega)) (fun c_3 => ?_)
  refine r_iload_n X eX6_bits_10 rfl ?_
  refine r_iload_n X eX6_bits_11 rfl ?_
  refine r_iload_n X eX6_bits_12 rfl ?_
  refine r_ishr X eX6_bits_13 ((nI v) >>> ((nI 2) &&& 31)) rfl ?_
  refine r_iconst X eX6_bits_14 (nI 1) (by decide) ?_
  refine r_iand X eX6_bits_15 (nI (v / 2 ^ 2 % 2)) (bit_tab v hv 2 (by omega)) ?_
  refine r_iadd X eX6_bits_16 (nI (((0 + (v / 2 ^ 0 % 2)) + (v / 2 ^ 1 % 2)) + (v / 2 ^ 2 % 2))) (addN (by omega)) ?_
  refine r_istore_n X eX6_bits_17 (Nat.le_of_ble_eq_true rfl) (L2 := [some (.int (nI v)), some (.int (nI (((0 + (v / 2 ^ 0 % 2)) + (v / 2 ^ 1 % 2)) + (v / 2 ^ 2 % 2)))), some (.int (nI 2))]) rfl ?_
  refine r_iinc X eX6_bits_18 rfl (nI 3) (inc_nI _) (L2 := [some (.int (nI v)), some (.int (nI (((0 + (v / 2 ^ 0 % 2)) + (v / 2 ^ 1 % 2)) + (v / 2 ^ 2 % 2)))), some (.int (nI 3))]) rfl ?_
  refine r_goto (tgt := 4) X eX6_bits_21 (by decide) ?_
  refine r_iload_n X eX6_bits_4 rfl ?_
  refine r_bipush X eX6_bits_5 (nI 6) (by decide) ?_
  refine r_icmp_ge (tgt := 24) X eX6_bits_7 (by decide) (nI_toInt (by omega)) (nI_toInt (by omega)) (fun c_4 => absurd c_4 (by omega)) (fun c_4 => ?_)
  refine r_iload_n X eX6_bits_10 rfl ?_
  refine r_iload_n X eX6_bits_11 rfl ?_
  refine r_iload_n X eX6_bits_12 rfl ?_
  refine r_ishr X eX6_bits_13 ((nI v) >>> ((nI 3) &&& 31)) rfl ?_
  refine r_iconst X eX6_bits_14 (nI 1) (by decide) ?_
  refine r_iand X eX6_bits_15 (nI (v / 2 ^ 3 % 2)) (bit_tab v hv 3 (by omega)) ?_
  refine r_iadd X eX6_bits_16 (nI ((((0 + (v / 2 ^ 0 % 2)) + (v / 2 ^ 1 % 2)) + (v / 2 ^ 2 % 2)) + (v / 2 ^ 3 % 2))) (addN (by omega)) ?_
  refine r_istore_n X eX6_bits_17 (Nat.le_of_ble_eq_true rfl) (L2 := [some (.int (nI v)), some (.int (nI ((((0 + (v / 2 ^ 0 % 2)) + (v / 2 ^ 1 % 2)) + (v / 2 ^ 2 % 2)) + (v / 2 ^ 3 % 2)))), some (.int (nI 3))]) rfl ?_
  refine r_iinc X eX6_bits_18 rfl (nI 4) (inc_nI _) (L2 := [some (.int (nI v)), some (.int (nI ((((0 + (v / 2 ^ 0 % 2)) + (v / 2 ^ 1 % 2)) + (v / 2 ^ 2 % 2)) + (v / 2 ^ 3 % 2)))), some (.int (nI 4))]) rfl ?_
  refine r_goto (tgt := 4) X eX6_bits_21 (by decide) ?_
  refine r_iload_n X eX6_bits_4 rfl ?_
  refine r_bipush X eX6_bits_5 (nI 6) (by decide) ?_
  refine r_icmp_ge (tgt := 24) X eX6_bits_7 (by decide) (nI_toInt (by omega)) (nI_toInt (by omega)) (fun c_5 => absurd c_5 (by omega)) (fun c_5 => ?_)
  refine r_iload_n X eX6_bits_10 rfl ?_
  refine r_iload_n X eX6_bits_11 rfl ?_
  refine r_iload_n X eX6_bits_12 rfl ?_
  refine r_ishr X eX6_bits_13 ((nI v) >>> ((nI 4) &&& 31)) rfl ?_
  refine r_iconst X eX6_bits_14 (nI 1) (by decide) ?_
  refine r_iand X eX6_bits_15 (nI (v / 2 ^ 4 % 2)) (bit_tab v hv 4 (by omega)) ?_
  refine r_iadd X eX6_bits_16 (nI (((((0 + (v / 2 ^ 0 % 2)) + (v / 2 ^ 1 % 2)) + (v / 2 ^ 2 % 2)) + (v / 2 ^ 3 % 2)) + (v / 2 ^ 4 % 2))) (addN (by omega)) ?_
  refine r_istore_n X eX6_bits_17 (Nat.le_of_ble_eq_true rfl) (L2 := [some (.int (nI v)), some (.int (nI (((((0 + (v / 2 ^ 0 % 2)) + (v / 2 ^ 1 % 2)) + (v / 2 ^ 2 % 2)) + (v / 2 ^ 3 % 2)) + (v / 2 ^ 4 % 2)))), some (.int (nI 4))]) rfl ?_
  refine r_iinc X eX6_bits_18 rfl (nI 5) (inc_nI _) (L2 := [some (.int (nI v)), some (.int (nI (((((0 + (v / 2 ^ 0 % 2)) + (v / 2 ^ 1 % 2)) + (v / 2 ^ 2 % 2)) + (v / 2 ^ 3 % 2)) + (v / 2 ^ 4 % 2)))), some (.int (nI 5))]) rfl ?_
  refine r_goto (tgt := 4) X eX6_bits_21 (by decide) ?_
  refine r_iload_n X eX6_bits_4 rfl ?_
  refine r_bipush X eX6_bits_5 (nI 6) (by decide) ?_
  refine r_icmp_ge (tgt := 24) X eX6_bits_7 (by decide) (nI_toInt (by omega)) (nI_toInt (by omega)) (fun c_6 => absurd c_6 (by omega)) (fun c_6 => ?_)
  refine r_iload_n X eX6_bits_10 rfl ?_
  refine r_iload_n X eX6_bits_11 rfl ?_
  refine r_iload_n X eX6_bits_12 rfl ?_
  refine r_ishr X eX6_bits_13 ((nI v) >>> ((nI 5) &&& 31)) rfl ?_
  refine r_iconst X eX6_bits_14 (nI 1) (by decide) ?_
  refine r_iand X eX6_bits_15 (nI (v / 2 ^ 5 % 2)) (bit_tab v hv 5 (by omega)) ?_
  refine r_iadd X eX6_bits_16 (nI ((((((0 + (v / 2 ^ 0 % 2)) + (v / 2 ^ 1 % 2)) + (v / 2 ^ 2 % 2)) + (v / 2 ^ 3 % 2)) + (v / 2 ^ 4 % 2)) + (v / 2 ^ 5 % 2))) (addN (by omega)) ?_
  refine r_istore_n X eX6_bits_17 (Nat.le_of_ble_eq_true rfl) (L2 := [some (.int (nI v)), some (.int (nI ((((((0 + (v / 2 ^ 0 % 2)) + (v / 2 ^ 1 % 2)) + (v / 2 ^ 2 % 2)) + (v / 2 ^ 3 % 2)) + (v / 2 ^ 4 % 2)) + (v / 2 ^ 5 % 2)))), some (.int (nI 5))]) rfl ?_
  refine r_iinc X eX6_bits_18 rfl (nI 6) (inc_nI _) (L2 := [some (.int (nI v)), some (.int (nI ((((((0 + (v / 2 ^ 0 % 2)) + (v / 2 ^ 1 % 2)) + (v / 2 ^ 2 % 2)) + (v / 2 ^ 3 % 2)) + (v / 2 ^ 4 % 2)) + (v / 2 ^ 5 % 2)))), some (.int (nI 6))]) rfl ?_
  refine r_goto (tgt := 4) X eX6_bits_21 (by decide) ?_
  refine r_iload_n X eX6_bits_4 rfl ?_
  refine r_bipush X eX6_bits_5 (nI 6) (by decide) ?_
  refine r_icmp_ge (tgt := 24) X eX6_bits_7 (by decide) (nI_toInt (by omega)) (nI_toInt (by omega)) (fun c_7 => ?_) (fun c_7 => absurd c_7 (by omega))
  refine r_iload_n X eX6_bits_24 rfl ?_
  exact ret _ _ _ _ _ eX6_bits_25 (⟨congrArg nI (by simp only [bts]; omega), rfl⟩)
set_option maxHeartbeats 4000000 in
set_option maxRecDepth 100000 in
theorem c_X6_goOrder (l : Launch) (G : Gs) (b N : Nat) (w : Wd) (hN : 88 ≤ N) (n wd hg : Nat) (sc kc bc bo ag bk : Int32) (st ims kf sg gr mk rs se tt tc : Nat → Int32) (hm : mW G b w n wd hg sc kc bc bo ag bk st ims kf sg gr mk rs se tt tc) (P : Pc) (hP : okPc P) (e1 : st 128 = nI P.1) (e2 : st 129 = nI P.2.1) (lw : Nat) (hlw : lw < 2) (hst : st 130 = nI lw) (hsI : stI st lw P) (v k : Nat) (hv : v < 64) (hk : k ≤ 6) (hok : okR P (oV k v)) : CI l yX6_goOrder cX6_goOrder 5 (some .int) 11 G b N w [.ref (b + 77), .int (nI v), .int (nI k)] (fun r w2 => r = crS lw P (oV k v) 0 ∧ (∃ sc2 gr2 mk2 rs2 se2, mW G b w2 n ((runP lw P (oV k v)).1) ((runP lw P (oV k v)).2.1) sc2 (krS lw P (oV k v) 0) bc bo ag bk st ims kf sg gr2 mk2 rs2 se2 tt tc ∧ agG (runP lw P (oV k v)) 0 gr2 mk2 ∧ ∀ j, (j < 77 ∨ 88 ≤ j) → w2 j = w j)) := by
  obtain ⟨m0, m1, m2, m3, m4, m5, m6, m7, m8, m9, m10⟩ := hm
  refine CI_of (L0 := [some (.ref (b + 77)), some (.int (nI v)), some (.int (nI k)), none, none]) (by decide) rfl (by simp [Value.category]) rfl (Nat.le_of_ble_eq_true rfl) rfl (fun κ X ret => ?_)
  have fr_w : ∀ j, (j < 77 ∨ 88 ≤ j) → w j = w j := fun _ _ => rfl
  refine r_aload_n X eX6_goOrder_0 rfl ?_
  refine cv_X6_124 X eX6_goOrder_1 (c_X6_take _ G b N w hN n wd hg sc kc bc bo ag bk st ims kf sg gr mk rs se tt tc ⟨m0, m1, m2, m3, m4, m5, m6, m7, m8, m9, m10⟩ P.1 P.2.1 e1 e2) (by decide) (by omega) m0 rfl (Nat.le_of_ble_eq_true rfl) (fun w1 hp1 => ?_)
  obtain ⟨gr2, mk2, ⟨y0K, y1K, y2K, y3K, y4K, y5K, y6K, y7K, y8K, y9K, y10K⟩, hgk, gK⟩ := hp1
  have m2_w1 : w1 77 = .inr (6, [.ref (b + 78), .ref (b + 79), .ref (b + 80), .ref (b + 81), .int (nI n), .ref (b + 82), .ref (b + 83), .int (nI P.1), .int (nI P.2.1), .ref (b + 84), .ref (b + 85), .int sc, .int kc, .int bc, .int bo, .int ag, .int bk, .ref (b + 86), .ref (b + 87)]) := y0K
  have m3_w1 : w1 78 = aI G 131 st := y1K
  have m4_w1 : w1 79 = aI G 262 ims := y2K
  have m5_w1 : w1 80 = aZ G 2 kf := y3K
  have m6_w1 : w1 81 = aI G 80 sg := y4K
  have m7_w1 : w1 82 = aI G 64 gr2 := y5K
  have m8_w1 : w1 83 = aI G 64 mk2 := y6K
  have m9_w1 : w1 84 = aI G 64 rs := y7K
  have m10_w1 : w1 85 = aI G 8 se := y8K
  have m11_w1 : w1 86 = aI G 6272 tt := y9K
  have m12_w1 : w1 87 = aI G 49 tc := y10K
  have fr_w1 : ∀ j, (j < 77 ∨ 88 ≤ j) → w1 j = w j := fun j hj => (gK j (by omega)).trans (fr_w j hj)
  have hag0 := stI_ag hsI hgk
  refine r_aload_n X eX6_goOrder_4 rfl ?_
  refine r_iconst X eX6_goOrder_5 ((0 : Int32)) (by decide) ?_
  refine pf_X6_103 X eX6_goOrder_6 (by omega) m2_w1 (fun w13 n13_w13 uu13 => ?_)
  have m3_w13 := (uu13 78 (by omega)).trans m3_w1
  have m4_w13 := (uu13 79 (by omega)).trans m4_w1
  have m5_w13 := (uu13 80 (by omega)).trans m5_w1
  have m6_w13 := (uu13 81 (by omega)).trans m6_w1
  have m7_w13 := (uu13 82 (by omega)).trans m7_w1
  have m8_w13 := (uu13 83 (by omega)).trans m8_w1
  have m9_w13 := (uu13 84 (by omega)).trans m9_w1
  have m10_w13 := (uu13 85 (by omega)).trans m10_w1
  have m11_w13 := (uu13 86 (by omega)).trans m11_w1
  have m12_w13 := (uu13 87 (by omega)).trans m12_w1
  have fr_w13 : ∀ j, (j < 77 ∨ 88 ≤ j) → w13 j = w j := fun j hj => (uu13 j (by omega)).trans (fr_w1 j hj)
  refine r_iconst X eX6_goOrder_9 ((0 : Int32)) (by decide) ?_
  refine r_istore_n X eX6_goOrder_10 (Nat.le_of_ble_eq_true rfl) (L2 := [some (.ref (b + 77)), some (.int (nI v)), some (.int (nI k)), some (.int ((0 : Int32))), none]) rfl ?_
  refine r_iload_n X eX6_goOrder_11 rfl ?_
  refine r_iconst X eX6_goOrder_12 (nI 1) (by decide) ?_
  refine r_isub X eX6_goOrder_13 (nP k) (subP _) ?_
  refine r_istore X eX6_goOrder_14 (Nat.le_of_ble_eq_true rfl) (L2 := [some (.ref (b + 77)), some (.int (nI v)), some (.int (nI k)), some (.int ((0 : Int32))), some (.int (nP k))]) rfl ?_
  have lp14 : ∀ (fu : Nat) (t : Nat) (Q : Pc) (c kq scq : Int32) (grq mkq rsq seq : Nat → Int32) (w14 : Wd), (t ≤ k) → (okR Q (oV t v)) → (agG Q 0 grq mkq) → (crS lw Q (oV t v) c = crS lw P (oV k v) 0) → (krS lw Q (oV t v) kq = krS lw P (oV k v) 0) → (runP lw Q (oV t v) = runP lw P (oV k v)) → (w14 77 = .inr (6, [.ref (b + 78), .ref (b + 79), .ref (b + 80), .ref (b + 81), .int (nI n), .ref (b + 82), .ref (b + 83), .int (nI Q.1), .int (nI Q.2.1), .ref (b + 84), .ref (b + 85), .int scq, .int kq, .int bc, .int bo, .int ag, .int bk, .ref (b + 86), .ref (b + 87)])) → (w14 78 = aI G 131 st) → (w14 79 = aI G 262 ims) → (w14 80 = aZ G 2 kf) → (w14 81 = aI G 80 sg) → (w14 82 = aI G 64 grq) → (w14 83 = aI G 64 mkq) → (w14 84 = aI G 64 rsq) → (w14 85 = aI G 8 seq) → (w14 86 = aI G 6272 tt) → (w14 87 = aI G 49 tc) → (∀ j, (j < 77 ∨ 88 ≤ j) → w14 j = w j) → t < fu → V κ G b (N, 0, 0) w14 16 [some (.ref (b + 77)), some (.int (nI v)), some (.int (nI k)), some (.int c), some (.int (nP t))] [] := by
    intro fu
    induction fu with
    | zero => intro t Q c kq scq grq mkq rsq seq w14 ht hokQ hagQ hcr hkr hru n13_w14 m3_w14 m4_w14 m5_w14 m6_w14 m7_w14 m8_w14 m9_w14 m10_w14 m11_w14 m12_w14 fr_w14 hm; exact absurd hm (Nat.not_lt_zero _)
    | succ fu ih14 =>
      intro t Q c kq scq grq mkq rsq seq w14 ht hokQ hagQ hcr hkr hru n13_w14 m3_w14 m4_w14 m5_w14 m6_w14 m7_w14 m8_w14 m9_w14 m10_w14 m11_w14 m12_w14 fr_w14 hm
      refine r_iload X eX6_goOrder_16 rfl ?_
      refine r_if_lt (tgt := 40) X eX6_goOrder_18 (by decide) (nP_toInt (by omega)) (fun c_15 => ?_) (fun c_15 => ?_)
      ·
        refine r_iload_n X eX6_goOrder_40 rfl ?_
        exact ret _ _ _ _ _ eX6_goOrder_41 (by have ht0 : t = 0 := (by omega); subst ht0; have hcr : c = _ := hcr; have hkr : kq = _ := hkr; have hru : Q = _ := hru; rw [← hcr, ← hkr, ← hru]; exact ⟨rfl, scq, grq, mkq, rsq, seq, ⟨n13_w14, m3_w14, m4_w14, m5_w14, m6_w14, m7_w14, m8_w14, m9_w14, m10_w14, m11_w14, m12_w14⟩, hagQ, fr_w14⟩)
      ·
        rw [nP_pos (show 0 < t by omega)]
        refine r_iload_n X eX6_goOrder_21 rfl ?_
        refine r_aload_n X eX6_goOrder_22 rfl ?_
        refine r_iload_n X eX6_goOrder_23 rfl ?_
        refine r_iload X eX6_goOrder_24 rfl ?_
        refine r_ishr X eX6_goOrder_26 ((nI v) >>> ((nI (t - 1)) &&& 31)) rfl ?_
        refine r_iconst X eX6_goOrder_27 (nI 1) (by decide) ?_
        refine r_iand X eX6_goOrder_28 (nI (v / 2 ^ (t - 1) % 2)) (bit_tab v hv (t - 1) (by omega)) ?_
        have hbl : v / 2 ^ (t - 1) % 2 < 2 := Nat.mod_lt _ (by decide)
        have hov : oV t v = v / 2 ^ (t - 1) % 2 :: oV (t - 1) v := oV_s (by omega)
        refine cv_X6_150 X eX6_goOrder_29 (c_X6_cutWay _ G b N w14 hN n Q scq kq bc bo ag bk st ims kf sg grq mkq rsq seq tt tc ⟨n13_w14, m3_w14, m4_w14, m5_w14, m6_w14, m7_w14, m8_w14, m9_w14, m10_w14, m11_w14, m12_w14⟩ hokQ.ok lw hlw hst hagQ (v / 2 ^ (t - 1) % 2) hbl) (by decide) (by omega) n13_w14 rfl (Nat.le_of_ble_eq_true rfl) (fun r16 w16 hp16 => ?_)
        obtain ⟨roC, ⟨grC, mkC, rsC, seC, ⟨y0C, y1C, y2C, y3C, y4C, y5C, y6C, y7C, y8C, y9C, y10C⟩, hagC, gC⟩⟩ := hp16
        have m17_w16 : w16 77 = .inr (6, [.ref (b + 78), .ref (b + 79), .ref (b + 80), .ref (b + 81), .int (nI n), .ref (b + 82), .ref (b + 83), .int (nI ((cutP lw Q (v / 2 ^ (t - 1) % 2)).1)), .int (nI ((cutP lw Q (v / 2 ^ (t - 1) % 2)).2.1)), .ref (b + 84), .ref (b + 85), .int (tA lw Q (v / 2 ^ (t - 1) % 2)), .int (kq + kA lw Q (v / 2 ^ (t - 1) % 2)), .int bc, .int bo, .int ag, .int bk, .ref (b + 86), .ref (b + 87)]) := y0C
        have m18_w16 : w16 78 = aI G 131 st := y1C
        have m19_w16 : w16 79 = aI G 262 ims := y2C
        have m20_w16 : w16 80 = aZ G 2 kf := y3C
        have m21_w16 : w16 81 = aI G 80 sg := y4C
        have m22_w16 : w16 82 = aI G 64 grC := y5C
        have m23_w16 : w16 83 = aI G 64 mkC := y6C
        have m24_w16 : w16 84 = aI G 64 rsC := y7C
        have m25_w16 : w16 85 = aI G 8 seC := y8C
        have m26_w16 : w16 86 = aI G 6272 tt := y9C
        have m27_w16 : w16 87 = aI G 49 tc := y10C
        have fr_w16 : ∀ j, (j < 77 ∨ 88 ≤ j) → w16 j = w j := fun j hj => (gC j (by omega)).trans (fr_w14 j hj)
        rw [roC]
        refine r_iadd X eX6_goOrder_32 (c + (tA lw Q (v / 2 ^ (t - 1) % 2))) rfl ?_
        refine r_istore_n X eX6_goOrder_33 (Nat.le_of_ble_eq_true rfl) (L2 := [some (.ref (b + 77)), some (.int (nI v)), some (.int (nI k)), some (.int (c + (tA lw Q (v / 2 ^ (t - 1) % 2)))), some (.int (nI (t - 1)))]) rfl ?_
        refine r_iinc X eX6_goOrder_34 rfl (nP (t - 1)) (dec_nI _) (L2 := [some (.ref (b + 77)), some (.int (nI v)), some (.int (nI k)), some (.int (c + (tA lw Q (v / 2 ^ (t - 1) % 2)))), some (.int (nP (t - 1)))]) rfl ?_
        refine r_goto (tgt := 16) X eX6_goOrder_37 (by decide) ?_
        exact ih14 (t - 1) (cutP lw Q (v / 2 ^ (t - 1) % 2)) (c + tA lw Q (v / 2 ^ (t - 1) % 2)) (kq + kA lw Q (v / 2 ^ (t - 1) % 2)) (tA lw Q (v / 2 ^ (t - 1) % 2)) grC mkC rsC seC w16 (by omega) (okR_st hbl (hov ▸ hokQ)) hagC (by rw [hov] at hcr; exact hcr) (by rw [hov] at hkr; exact hkr) (by rw [hov] at hru; exact hru) m17_w16 m18_w16 m19_w16 m20_w16 m21_w16 m22_w16 m23_w16 m24_w16 m25_w16 m26_w16 m27_w16 fr_w16 (by omega)
  exact lp14 _ k P 0 0 sc gr2 mk2 rs se w13 (Nat.le_refl _) hok hag0 rfl rfl rfl n13_w13 m3_w13 m4_w13 m5_w13 m6_w13 m7_w13 m8_w13 m9_w13 m10_w13 m11_w13 m12_w13 fr_w13 (Nat.lt_succ_self _)
set_option maxHeartbeats 4000000 in
set_option maxRecDepth 100000 in
theorem c_X6_layBest (l : Launch) (G : Gs) (b N : Nat) (w : Wd) (hN : 88 ≤ N) (n wd hg : Nat) (sc kc bc bo ag bk : Int32) (st ims kf sg gr mk rs se tt tc : Nat → Int32) (hm : mW G b w n wd hg sc kc bc bo ag bk st ims kf sg gr mk rs se tt tc) (P : Pc) (hP : okPc P) (e1 : st 128 = nI P.1) (e2 : st 129 = nI P.2.1) (lw : Nat) (hlw : lw < 2) (hst : st 130 = nI lw) (hsI : stI st lw P) (a e : Nat) (ha : a + 2 ≤ P.1) (he : e + 2 ≤ P.2.1) (h6 : a + e ≤ 6) : CV l yX6_layBest cX6_layBest 5 12 G b N w [.ref (b + 77), .int (nI a), .int (nI e)] (fun w2 => ∃ wd2 hg2 sc2 kc2 bc2 bo2 ag2 bk2 gr2 mk2 rs2 se2, mW G b w2 n wd2 hg2 sc2 kc2 bc2 bo2 ag2 bk2 st ims kf sg gr2 mk2 rs2 se2 tt tc ∧ RB lw P (a + e) (bsA lw P a e) bc2 bo2 ag2 bk2 ∧ ∀ j, (j < 77 ∨ 88 ≤ j) → w2 j = w j) := by
  obtain ⟨m0, m1, m2, m3, m4, m5, m6, m7, m8, m9, m10⟩ := hm
  have hP2 := hP
  obtain ⟨o1, o2, o3, o4⟩ := hP2
  have h64 : 2 ^ (a + e) ≤ 2 ^ 6 := Nat.pow_le_pow_right (by decide) h6
  refine CV_of (L0 := [some (.ref (b + 77)), some (.int (nI a)), some (.int (nI e)), none, none]) (by decide) rfl (by simp [Value.category]) rfl (Nat.le_of_ble_eq_true rfl) (fun κ X ret => ?_)
  have fr_w : ∀ j, (j < 77 ∨ 88 ≤ j) → w j = w j := fun _ _ => rfl
  refine r_aload_n X eX6_layBest_0 rfl ?_
  refine r_bipush X eX6_layBest_1 ((-6 : Int32)) (by decide) ?_
  refine pf_X6_159 X eX6_layBest_3 (by omega) m0 (fun w1 n1_w1 uu1 => ?_)
  have m1_w1 := (uu1 78 (by omega)).trans m1
  have m2_w1 := (uu1 79 (by omega)).trans m2
  have m3_w1 := (uu1 80 (by omega)).trans m3
  have m4_w1 := (uu1 81 (by omega)).trans m4
  have m5_w1 := (uu1 82 (by omega)).trans m5
  have m6_w1 := (uu1 83 (by omega)).trans m6
  have m7_w1 := (uu1 84 (by omega)).trans m7
  have m8_w1 := (uu1 85 (by omega)).trans m8
  have m9_w1 := (uu1 86 (by omega)).trans m9
  have m10_w1 := (uu1 87 (by omega)).trans m10
  have fr_w1 : ∀ j, (j < 77 ∨ 88 ≤ j) → w1 j = w j := fun j hj => (uu1 j (by omega)).trans (fr_w j hj)
  refine r_aload_n X eX6_layBest_6 rfl ?_
  refine r_iconst X eX6_layBest_7 (nI 0) (by decide) ?_
  refine pf_X6_162 X eX6_layBest_8 (by omega) n1_w1 (fun w2 n2_w2 uu2 => ?_)
  have m1_w2 := (uu2 78 (by omega)).trans m1_w1
  have m2_w2 := (uu2 79 (by omega)).trans m2_w1
  have m3_w2 := (uu2 80 (by omega)).trans m3_w1
  have m4_w2 := (uu2 81 (by omega)).trans m4_w1
  have m5_w2 := (uu2 82 (by omega)).trans m5_w1
  have m6_w2 := (uu2 83 (by omega)).trans m6_w1
  have m7_w2 := (uu2 84 (by omega)).trans m7_w1
  have m8_w2 := (uu2 85 (by omega)).trans m8_w1
  have m9_w2 := (uu2 86 (by omega)).trans m9_w1
  have m10_w2 := (uu2 87 (by omega)).trans m10_w1
  have fr_w2 : ∀ j, (j < 77 ∨ 88 ≤ j) → w2 j = w j := fun j hj => (uu2 j (by omega)).trans (fr_w1 j hj)
  refine r_iconst X eX6_layBest_11 (nI 0) (by decide) ?_
  refine r_istore_n X eX6_layBest_12 (Nat.le_of_ble_eq_true rfl) (L2 := [some (.ref (b + 77)), some (.int (nI a)), some (.int (nI e)), some (.int (nI 0)), none]) rfl ?_
  have lp3 : ∀ (fu : Nat) (v wdv hgv : Nat) (scv kcv bcv bov agv bkv : Int32) (grv mkv rsv sev : Nat → Int32) (w3 : Wd), (v ≤ 2 ^ (a + e)) → (RB lw P (a + e) (fS lw P (a + e) e v) bcv bov agv bkv) → (w3 77 = .inr (6, [.ref (b + 78), .ref (b + 79), .ref (b + 80), .ref (b + 81), .int (nI n), .ref (b + 82), .ref (b + 83), .int (nI wdv), .int (nI hgv), .ref (b + 84), .ref (b + 85), .int scv, .int kcv, .int bcv, .int bov, .int agv, .int bkv, .ref (b + 86), .ref (b + 87)])) → (w3 78 = aI G 131 st) → (w3 79 = aI G 262 ims) → (w3 80 = aZ G 2 kf) → (w3 81 = aI G 80 sg) → (w3 82 = aI G 64 grv) → (w3 83 = aI G 64 mkv) → (w3 84 = aI G 64 rsv) → (w3 85 = aI G 8 sev) → (w3 86 = aI G 6272 tt) → (w3 87 = aI G 49 tc) → (∀ j, (j < 77 ∨ 88 ≤ j) → w3 j = w j) → 2 ^ (a + e) - v < fu → V κ G b (N, 0, 0) w3 13 [some (.ref (b + 77)), some (.int (nI a)), some (.int (nI e)), some (.int (nI v)), none] [] := by
    intro fu
    induction fu with
    | zero => intro v wdv hgv scv kcv bcv bov agv bkv grv mkv rsv sev w3 hvl hRB n2_w3 m1_w3 m2_w3 m3_w3 m4_w3 m5_w3 m6_w3 m7_w3 m8_w3 m9_w3 m10_w3 fr_w3 hm; exact absurd hm (Nat.not_lt_zero _)
    | succ fu ih3 =>
      intro v wdv hgv scv kcv bcv bov agv bkv grv mkv rsv sev w3 hvl hRB n2_w3 m1_w3 m2_w3 m3_w3 m4_w3 m5_w3 m6_w3 m7_w3 m8_w3 m9_w3 m10_w3 fr_w3 hm
      refine r_iload_n X eX6_layBest_13 rfl ?_
      refine r_iconst X eX6_layBest_14 (nI 1) (by decide) ?_
      refine r_iload_n X eX6_layBest_15 rfl ?_
      refine r_iload_n X eX6_layBest_16 rfl ?_
      refine r_iadd X eX6_layBest_17 (nI (a + e)) (addN (by omega)) ?_
      refine r_ishl X eX6_layBest_18 (nI (2 ^ (a + e))) (shl_tab (a + e) (by omega)) ?_
      refine r_icmp_ge (tgt := 109) X eX6_layBest_19 (by decide) (nI_toInt (by omega)) (nI_toInt (by omega)) (fun c_4 => ?_) (fun c_4 => ?_)
      ·
        exact ret _ _ _ _ eX6_layBest_109 (⟨_, _, _, _, _, _, _, _, _, _, _, _, ⟨n2_w3, m1_w3, m2_w3, m3_w3, m4_w3, m5_w3, m6_w3, m7_w3, m8_w3, m9_w3, m10_w3⟩, by rw [← fS_bs h6, ← show v = 2 ^ (a + e) by omega]; exact hRB, fr_w3⟩)
      ·
        refine r_iload_n X eX6_layBest_22 rfl ?_
        refine cp_X6_165 X eX6_layBest_23 (c_X6_bits _ G b N w3 v (by omega)) (by decide) rfl (Nat.le_of_ble_eq_true rfl) ?_
        have hbt := bts_le v
        refine r_iload_n X eX6_layBest_26 rfl ?_
        refine r_icmp_ne (tgt := 103) X eX6_layBest_27 (by decide) (nI_toInt (by omega)) (nI_toInt (by omega)) (fun c_5 => ?_) (fun c_5 => ?_)
        ·
          refine r_iinc X eX6_layBest_103 rfl (nI (v + 1)) (inc_nI _) (L2 := [some (.ref (b + 77)), some (.int (nI a)), some (.int (nI e)), some (.int (nI (v + 1))), none]) rfl ?_
          refine r_goto (tgt := 13) X eX6_layBest_106 (by decide) ?_
          exact ih3 (v + 1) wdv hgv scv kcv bcv bov agv bkv grv mkv rsv sev w3 (by omega) (by rw [fS, if_neg (by omega)]; exact hRB) n2_w3 m1_w3 m2_w3 m3_w3 m4_w3 m5_w3 m6_w3 m7_w3 m8_w3 m9_w3 m10_w3 fr_w3 (by omega)
        ·
          refine r_aload_n X eX6_layBest_30 rfl ?_
          refine r_iload_n X eX6_layBest_31 rfl ?_
          refine r_iload_n X eX6_layBest_32 rfl ?_
          refine r_iload_n X eX6_layBest_33 rfl ?_
          refine r_iadd X eX6_layBest_34 (nI (a + e)) (addN (by omega)) ?_
          have hct := cnt_tab a (by omega) e (by omega) (by omega) v (by omega) (by omega)
          refine cv_X6_168 X eX6_layBest_35 (c_X6_goOrder _ G b N w3 hN n wdv hgv scv kcv bcv bov agv bkv st ims kf sg grv mkv rsv sev tt tc ⟨n2_w3, m1_w3, m2_w3, m3_w3, m4_w3, m5_w3, m6_w3, m7_w3, m8_w3, m9_w3, m10_w3⟩ P hP e1 e2 lw hlw hst hsI v (a + e) (by omega) (by omega) ⟨by omega, o2, by omega, o4⟩) (by decide) (by omega) n2_w3 rfl (Nat.le_of_ble_eq_true rfl) (fun r6 w6 hp6 => ?_)
          obtain ⟨roG, ⟨scG, grG, mkG, rsG, seG, ⟨y0G, y1G, y2G, y3G, y4G, y5G, y6G, y7G, y8G, y9G, y10G⟩, hagG, gG⟩⟩ := hp6
          have m7_w6 : w6 77 = .inr (6, [.ref (b + 78), .ref (b + 79), .ref (b + 80), .ref (b + 81), .int (nI n), .ref (b + 82), .ref (b + 83), .int (nI ((runP lw P (oV (a + e) v)).1)), .int (nI ((runP lw P (oV (a + e) v)).2.1)), .ref (b + 84), .ref (b + 85), .int scG, .int (krS lw P (oV (a + e) v) 0), .int bcv, .int bov, .int agv, .int bkv, .ref (b + 86), .ref (b + 87)]) := y0G
          have m8_w6 : w6 78 = aI G 131 st := y1G
          have m9_w6 : w6 79 = aI G 262 ims := y2G
          have m10_w6 : w6 80 = aZ G 2 kf := y3G
          have m11_w6 : w6 81 = aI G 80 sg := y4G
          have m12_w6 : w6 82 = aI G 64 grG := y5G
          have m13_w6 : w6 83 = aI G 64 mkG := y6G
          have m14_w6 : w6 84 = aI G 64 rsG := y7G
          have m15_w6 : w6 85 = aI G 8 seG := y8G
          have m16_w6 : w6 86 = aI G 6272 tt := y9G
          have m17_w6 : w6 87 = aI G 49 tc := y10G
          have fr_w6 : ∀ j, (j < 77 ∨ 88 ≤ j) → w6 j = w j := fun j hj => (gG j (by omega)).trans (fr_w3 j hj)
          rw [roG]
          refine r_istore X eX6_layBest_38 (Nat.le_of_ble_eq_true rfl) (L2 := [some (.ref (b + 77)), some (.int (nI a)), some (.int (nI e)), some (.int (nI v)), some (.int (crS lw P (oV (a + e) v) 0))]) rfl ?_
          refine r_aload_n X eX6_layBest_40 rfl ?_
          refine gf_X6_159 X eX6_layBest_41 (by omega) m7_w6 ?_
          refine r_if_lt (tgt := 56) X eX6_layBest_44 (by decide) rfl (fun c_18 => ?_) (fun c_18 => ?_)
          ·
            have hcz : (fS lw P (a + e) e v).2.2.2 = 0 := by
              rcases hRB.2 with h | h
              · exact h.1
              · obtain ⟨z, hz1, hz2, _⟩ := h.2.2.2.2
                rw [hz2, nI_toInt (by omega)] at c_18
                omega
            refine r_aload_n X eX6_layBest_56 rfl ?_
            refine r_iload X eX6_layBest_57 rfl ?_
            refine pf_X6_171 X eX6_layBest_59 (by omega) m7_w6 (fun w19 n19_w19 uu19 => ?_)
            have m8_w19 := (uu19 78 (by omega)).trans m8_w6
            have m9_w19 := (uu19 79 (by omega)).trans m9_w6
            have m10_w19 := (uu19 80 (by omega)).trans m10_w6
            have m11_w19 := (uu19 81 (by omega)).trans m11_w6
            have m12_w19 := (uu19 82 (by omega)).trans m12_w6
            have m13_w19 := (uu19 83 (by omega)).trans m13_w6
            have m14_w19 := (uu19 84 (by omega)).trans m14_w6
            have m15_w19 := (uu19 85 (by omega)).trans m15_w6
            have m16_w19 := (uu19 86 (by omega)).trans m16_w6
            have m17_w19 := (uu19 87 (by omega)).trans m17_w6
            have fr_w19 : ∀ j, (j < 77 ∨ 88 ≤ j) → w19 j = w j := fun j hj => (uu19 j (by omega)).trans (fr_w6 j hj)
            refine r_aload_n X eX6_layBest_62 rfl ?_
            refine r_iload_n X eX6_layBest_63 rfl ?_
            refine pf_X6_159 X eX6_layBest_64 (by omega) n19_w19 (fun w20 n20_w20 uu20 => ?_)
            have m8_w20 := (uu20 78 (by omega)).trans m8_w19
            have m9_w20 := (uu20 79 (by omega)).trans m9_w19
            have m10_w20 := (uu20 80 (by omega)).trans m10_w19
            have m11_w20 := (uu20 81 (by omega)).trans m11_w19
            have m12_w20 := (uu20 82 (by omega)).trans m12_w19
            have m13_w20 := (uu20 83 (by omega)).trans m13_w19
            have m14_w20 := (uu20 84 (by omega)).trans m14_w19
            have m15_w20 := (uu20 85 (by omega)).trans m15_w19
            have m16_w20 := (uu20 86 (by omega)).trans m16_w19
            have m17_w20 := (uu20 87 (by omega)).trans m17_w19
            have fr_w20 : ∀ j, (j < 77 ∨ 88 ≤ j) → w20 j = w j := fun j hj => (uu20 j (by omega)).trans (fr_w19 j hj)
            refine r_aload_n X eX6_layBest_67 rfl ?_
            refine r_aload_n X eX6_layBest_68 rfl ?_
            refine gf_X6_103 X eX6_layBest_69 (by omega) n20_w20 ?_
            refine pf_X6_174 X eX6_layBest_72 (by omega) n20_w20 (fun w21 n21_w21 uu21 => ?_)
            have m8_w21 := (uu21 78 (by omega)).trans m8_w20
            have m9_w21 := (uu21 79 (by omega)).trans m9_w20
            have m10_w21 := (uu21 80 (by omega)).trans m10_w20
            have m11_w21 := (uu21 81 (by omega)).trans m11_w20
            have m12_w21 := (uu21 82 (by omega)).trans m12_w20
            have m13_w21 := (uu21 83 (by omega)).trans m13_w20
            have m14_w21 := (uu21 84 (by omega)).trans m14_w20
            have m15_w21 := (uu21 85 (by omega)).trans m15_w20
            have m16_w21 := (uu21 86 (by omega)).trans m16_w20
            have m17_w21 := (uu21 87 (by omega)).trans m17_w20
            have fr_w21 : ∀ j, (j < 77 ∨ 88 ≤ j) → w21 j = w j := fun j hj => (uu21 j (by omega)).trans (fr_w20 j hj)
            refine r_aload_n X eX6_layBest_75 rfl ?_
            refine r_iconst X eX6_layBest_76 (nI 0) (by decide) ?_
            refine pf_X6_162 X eX6_layBest_77 (by omega) n21_w21 (fun w22 n22_w22 uu22 => ?_)
            have m8_w22 := (uu22 78 (by omega)).trans m8_w21
            have m9_w22 := (uu22 79 (by omega)).trans m9_w21
            have m10_w22 := (uu22 80 (by omega)).trans m10_w21
            have m11_w22 := (uu22 81 (by omega)).trans m11_w21
            have m12_w22 := (uu22 82 (by omega)).trans m12_w21
            have m13_w22 := (uu22 83 (by omega)).trans m13_w21
            have m14_w22 := (uu22 84 (by omega)).trans m14_w21
            have m15_w22 := (uu22 85 (by omega)).trans m15_w21
            have m16_w22 := (uu22 86 (by omega)).trans m16_w21
            have m17_w22 := (uu22 87 (by omega)).trans m17_w21
            have fr_w22 : ∀ j, (j < 77 ∨ 88 ≤ j) → w22 j = w j := fun j hj => (uu22 j (by omega)).trans (fr_w21 j hj)
            refine r_aload_n X eX6_layBest_80 rfl ?_
            refine r_dup X eX6_layBest_81 rfl ?_
            refine gf_X6_162 X eX6_layBest_82 (by omega) n22_w22 ?_
            refine r_iload X eX6_layBest_85 rfl ?_
            refine r_aload_n X eX6_layBest_87 rfl ?_
            refine gf_X6_171 X eX6_layBest_88 (by omega) n22_w22 ?_
            refine r_icmp_ne (tgt := 98) X eX6_layBest_91 (by decide) rfl rfl (fun c_23 => absurd c_23 (fun h => h rfl)) (fun c_23 => ?_)
            refine r_iconst X eX6_layBest_94 (nI 1) (by decide) ?_
            refine r_goto (tgt := 99) X eX6_layBest_95 (by decide) ?_
            refine r_iadd X eX6_layBest_99 (nI 1) (addN (by omega)) ?_
            refine pf_X6_162 X eX6_layBest_100 (by omega) n22_w22 (fun w24 n24_w24 uu24 => ?_)
            have m8_w24 := (uu24 78 (by omega)).trans m8_w22
            have m9_w24 := (uu24 79 (by omega)).trans m9_w22
            have m10_w24 := (uu24 80 (by omega)).trans m10_w22
            have m11_w24 := (uu24 81 (by omega)).trans m11_w22
            have m12_w24 := (uu24 82 (by omega)).trans m12_w22
            have m13_w24 := (uu24 83 (by omega)).trans m13_w22
            have m14_w24 := (uu24 84 (by omega)).trans m14_w22
            have m15_w24 := (uu24 85 (by omega)).trans m15_w22
            have m16_w24 := (uu24 86 (by omega)).trans m16_w22
            have m17_w24 := (uu24 87 (by omega)).trans m17_w22
            have fr_w24 : ∀ j, (j < 77 ∨ 88 ≤ j) → w24 j = w j := fun j hj => (uu24 j (by omega)).trans (fr_w22 j hj)
            refine r_iinc X eX6_layBest_103 rfl (nI (v + 1)) (inc_nI _) (L2 := [some (.ref (b + 77)), some (.int (nI a)), some (.int (nI e)), some (.int (nI (v + 1))), some (.int (crS lw P (oV (a + e) v) 0))]) rfl ?_
            refine r_goto (tgt := 13) X eX6_layBest_106 (by decide) ?_
            refine r_fg 4 (L2 := [some (.ref (b + 77)), some (.int (nI a)), some (.int (nI e)), some (.int (nI (v + 1))), none]) rfl ?_
            exact ih3 (v + 1) ((runP lw P (oV (a + e) v)).1) ((runP lw P (oV (a + e) v)).2.1) scG (krS lw P (oV (a + e) v) 0) (crS lw P (oV (a + e) v) 0) (nI v) (nI 1) (krS lw P (oV (a + e) v) 0) grG mkG rsG seG w24 (by omega) (by rw [fS, if_pos (by omega)]; exact RB_new (by omega) rfl (Or.inl hcz)) n24_w24 m8_w24 m9_w24 m10_w24 m11_w24 m12_w24 m13_w24 m14_w24 m15_w24 m16_w24 m17_w24 fr_w24 (by omega)
          ·
            have hcp := hRB.2.resolve_left (fun h => by rw [h.2] at c_18; exact absurd c_18 (by decide))
            refine r_iload X eX6_layBest_47 rfl ?_
            refine r_aload_n X eX6_layBest_49 rfl ?_
            refine gf_X6_171 X eX6_layBest_50 (by omega) m7_w6 ?_
            refine r_icmp_ge (tgt := 80) X eX6_layBest_53 (by decide) rfl rfl (fun c_25 => ?_) (fun c_25 => ?_)
            ·
              refine r_aload_n X eX6_layBest_80 rfl ?_
              refine r_dup X eX6_layBest_81 rfl ?_
              refine gf_X6_162 X eX6_layBest_82 (by omega) m7_w6 ?_
              refine r_iload X eX6_layBest_85 rfl ?_
              refine r_aload_n X eX6_layBest_87 rfl ?_
              refine gf_X6_171 X eX6_layBest_88 (by omega) m7_w6 ?_
              refine r_icmp_ne (tgt := 98) X eX6_layBest_91 (by decide) rfl rfl (fun c_26 => ?_) (fun c_26 => ?_)
              ·
                refine r_iconst X eX6_layBest_98 (nI 0) (by decide) ?_
                refine r_iadd X eX6_layBest_99 (agv + (nI 0)) rfl ?_
                refine pf_X6_162 X eX6_layBest_100 (by omega) m7_w6 (fun w27 n27_w27 uu27 => ?_)
                have m8_w27 := (uu27 78 (by omega)).trans m8_w6
                have m9_w27 := (uu27 79 (by omega)).trans m9_w6
                have m10_w27 := (uu27 80 (by omega)).trans m10_w6
                have m11_w27 := (uu27 81 (by omega)).trans m11_w6
                have m12_w27 := (uu27 82 (by omega)).trans m12_w6
                have m13_w27 := (uu27 83 (by omega)).trans m13_w6
                have m14_w27 := (uu27 84 (by omega)).trans m14_w6
                have m15_w27 := (uu27 85 (by omega)).trans m15_w6
                have m16_w27 := (uu27 86 (by omega)).trans m16_w6
                have m17_w27 := (uu27 87 (by omega)).trans m17_w6
                have fr_w27 : ∀ j, (j < 77 ∨ 88 ≤ j) → w27 j = w j := fun j hj => (uu27 j (by omega)).trans (fr_w6 j hj)
                refine r_iinc X eX6_layBest_103 rfl (nI (v + 1)) (inc_nI _) (L2 := [some (.ref (b + 77)), some (.int (nI a)), some (.int (nI e)), some (.int (nI (v + 1))), some (.int (crS lw P (oV (a + e) v) 0))]) rfl ?_
                refine r_goto (tgt := 13) X eX6_layBest_106 (by decide) ?_
                refine r_fg 4 (L2 := [some (.ref (b + 77)), some (.int (nI a)), some (.int (nI e)), some (.int (nI (v + 1))), none]) rfl ?_
                exact ih3 (v + 1) ((runP lw P (oV (a + e) v)).1) ((runP lw P (oV (a + e) v)).2.1) scG (krS lw P (oV (a + e) v) 0) bcv bov (agv + (nI 0)) bkv grG mkG rsG seG w27 (by omega) (by rw [fS, if_pos (by omega)]; exact RB_ne hRB hcp.1 (fun q => c_26 (congrArg Int32.toInt (q.trans hcp.2.1.symm))) (fun q => by have hz := Int32.lt_iff_toInt_lt.mp q; have hy := c_25; rw [hcp.2.1] at hy; omega)) n27_w27 m8_w27 m9_w27 m10_w27 m11_w27 m12_w27 m13_w27 m14_w27 m15_w27 m16_w27 m17_w27 fr_w27 (by omega)
              ·
                refine r_iconst X eX6_layBest_94 (nI 1) (by decide) ?_
                refine r_goto (tgt := 99) X eX6_layBest_95 (by decide) ?_
                refine r_iadd X eX6_layBest_99 (agv + (nI 1)) rfl ?_
                refine pf_X6_162 X eX6_layBest_100 (by omega) m7_w6 (fun w28 n28_w28 uu28 => ?_)
                have m8_w28 := (uu28 78 (by omega)).trans m8_w6
                have m9_w28 := (uu28 79 (by omega)).trans m9_w6
                have m10_w28 := (uu28 80 (by omega)).trans m10_w6
                have m11_w28 := (uu28 81 (by omega)).trans m11_w6
                have m12_w28 := (uu28 82 (by omega)).trans m12_w6
                have m13_w28 := (uu28 83 (by omega)).trans m13_w6
                have m14_w28 := (uu28 84 (by omega)).trans m14_w6
                have m15_w28 := (uu28 85 (by omega)).trans m15_w6
                have m16_w28 := (uu28 86 (by omega)).trans m16_w6
                have m17_w28 := (uu28 87 (by omega)).trans m17_w6
                have fr_w28 : ∀ j, (j < 77 ∨ 88 ≤ j) → w28 j = w j := fun j hj => (uu28 j (by omega)).trans (fr_w6 j hj)
                refine r_iinc X eX6_layBest_103 rfl (nI (v + 1)) (inc_nI _) (L2 := [some (.ref (b + 77)), some (.int (nI a)), some (.int (nI e)), some (.int (nI (v + 1))), some (.int (crS lw P (oV (a + e) v) 0))]) rfl ?_
                refine r_goto (tgt := 13) X eX6_layBest_106 (by decide) ?_
                refine r_fg 4 (L2 := [some (.ref (b + 77)), some (.int (nI a)), some (.int (nI e)), some (.int (nI (v + 1))), none]) rfl ?_
                exact ih3 (v + 1) ((runP lw P (oV (a + e) v)).1) ((runP lw P (oV (a + e) v)).2.1) scG (krS lw P (oV (a + e) v) 0) bcv bov (agv + (nI 1)) bkv grG mkG rsG seG w28 (by omega) (by rw [fS, if_pos (by omega)]; exact RB_eq hRB hcp.1 ((Int32.toInt_inj.mp c_26).trans hcp.2.1)) n28_w28 m8_w28 m9_w28 m10_w28 m11_w28 m12_w28 m13_w28 m14_w28 m15_w28 m16_w28 m17_w28 fr_w28 (by omega)
            ·
              refine r_aload_n X eX6_layBest_56 rfl ?_
              refine r_iload X eX6_layBest_57 rfl ?_
              refine pf_X6_171 X eX6_layBest_59 (by omega) m7_w6 (fun w29 n29_w29 uu29 => ?_)
              have m8_w29 := (uu29 78 (by omega)).trans m8_w6
              have m9_w29 := (uu29 79 (by omega)).trans m9_w6
              have m10_w29 := (uu29 80 (by omega)).trans m10_w6
              have m11_w29 := (uu29 81 (by omega)).trans m11_w6
              have m12_w29 := (uu29 82 (by omega)).trans m12_w6
              have m13_w29 := (uu29 83 (by omega)).trans m13_w6
              have m14_w29 := (uu29 84 (by omega)).trans m14_w6
              have m15_w29 := (uu29 85 (by omega)).trans m15_w6
              have m16_w29 := (uu29 86 (by omega)).trans m16_w6
              have m17_w29 := (uu29 87 (by omega)).trans m17_w6
              have fr_w29 : ∀ j, (j < 77 ∨ 88 ≤ j) → w29 j = w j := fun j hj => (uu29 j (by omega)).trans (fr_w6 j hj)
              refine r_aload_n X eX6_layBest_62 rfl ?_
              refine r_iload_n X eX6_layBest_63 rfl ?_
              refine pf_X6_159 X eX6_layBest_64 (by omega) n29_w29 (fun w30 n30_w30 uu30 => ?_)
              have m8_w30 := (uu30 78 (by omega)).trans m8_w29
              have m9_w30 := (uu30 79 (by omega)).trans m9_w29
              have m10_w30 := (uu30 80 (by omega)).trans m10_w29
              have m11_w30 := (uu30 81 (by omega)).trans m11_w29
              have m12_w30 := (uu30 82 (by omega)).trans m12_w29
              have m13_w30 := (uu30 83 (by omega)).trans m13_w29
              have m14_w30 := (uu30 84 (by omega)).trans m14_w29
              have m15_w30 := (uu30 85 (by omega)).trans m15_w29
              have m16_w30 := (uu30 86 (by omega)).trans m16_w29
              have m17_w30 := (uu30 87 (by omega)).trans m17_w29
              have fr_w30 : ∀ j, (j < 77 ∨ 88 ≤ j) → w30 j = w j := fun j hj => (uu30 j (by omega)).trans (fr_w29 j hj)
              refine r_aload_n X eX6_layBest_67 rfl ?_
              refine r_aload_n X eX6_layBest_68 rfl ?_
              refine gf_X6_103 X eX6_layBest_69 (by omega) n30_w30 ?_
              refine pf_X6_174 X eX6_layBest_72 (by omega) n30_w30 (fun w31 n31_w31 uu31 => ?_)
              have m8_w31 := (uu31 78 (by omega)).trans m8_w30
              have m9_w31 := (uu31 79 (by omega)).trans m9_w30
              have m10_w31 := (uu31 80 (by omega)).trans m10_w30
              have m11_w31 := (uu31 81 (by omega)).trans m11_w30
              have m12_w31 := (uu31 82 (by omega)).trans m12_w30
              have m13_w31 := (uu31 83 (by omega)).trans m13_w30
              have m14_w31 := (uu31 84 (by omega)).trans m14_w30
              have m15_w31 := (uu31 85 (by omega)).trans m15_w30
              have m16_w31 := (uu31 86 (by omega)).trans m16_w30
              have m17_w31 := (uu31 87 (by omega)).trans m17_w30
              have fr_w31 : ∀ j, (j < 77 ∨ 88 ≤ j) → w31 j = w j := fun j hj => (uu31 j (by omega)).trans (fr_w30 j hj)
              refine r_aload_n X eX6_layBest_75 rfl ?_
              refine r_iconst X eX6_layBest_76 (nI 0) (by decide) ?_
              refine pf_X6_162 X eX6_layBest_77 (by omega) n31_w31 (fun w32 n32_w32 uu32 => ?_)
              have m8_w32 := (uu32 78 (by omega)).trans m8_w31
              have m9_w32 := (uu32 79 (by omega)).trans m9_w31
              have m10_w32 := (uu32 80 (by omega)).trans m10_w31
              have m11_w32 := (uu32 81 (by omega)).trans m11_w31
              have m12_w32 := (uu32 82 (by omega)).trans m12_w31
              have m13_w32 := (uu32 83 (by omega)).trans m13_w31
              have m14_w32 := (uu32 84 (by omega)).trans m14_w31
              have m15_w32 := (uu32 85 (by omega)).trans m15_w31
              have m16_w32 := (uu32 86 (by omega)).trans m16_w31
              have m17_w32 := (uu32 87 (by omega)).trans m17_w31
              have fr_w32 : ∀ j, (j < 77 ∨ 88 ≤ j) → w32 j = w j := fun j hj => (uu32 j (by omega)).trans (fr_w31 j hj)
              refine r_aload_n X eX6_layBest_80 rfl ?_
              refine r_dup X eX6_layBest_81 rfl ?_
              refine gf_X6_162 X eX6_layBest_82 (by omega) n32_w32 ?_
              refine r_iload X eX6_layBest_85 rfl ?_
              refine r_aload_n X eX6_layBest_87 rfl ?_
              refine gf_X6_171 X eX6_layBest_88 (by omega) n32_w32 ?_
              refine r_icmp_ne (tgt := 98) X eX6_layBest_91 (by decide) rfl rfl (fun c_33 => absurd c_33 (fun h => h rfl)) (fun c_33 => ?_)
              refine r_iconst X eX6_layBest_94 (nI 1) (by decide) ?_
              refine r_goto (tgt := 99) X eX6_layBest_95 (by decide) ?_
              refine r_iadd X eX6_layBest_99 (nI 1) (addN (by omega)) ?_
              refine pf_X6_162 X eX6_layBest_100 (by omega) n32_w32 (fun w34 n34_w34 uu34 => ?_)
              have m8_w34 := (uu34 78 (by omega)).trans m8_w32
              have m9_w34 := (uu34 79 (by omega)).trans m9_w32
              have m10_w34 := (uu34 80 (by omega)).trans m10_w32
              have m11_w34 := (uu34 81 (by omega)).trans m11_w32
              have m12_w34 := (uu34 82 (by omega)).trans m12_w32
              have m13_w34 := (uu34 83 (by omega)).trans m13_w32
              have m14_w34 := (uu34 84 (by omega)).trans m14_w32
              have m15_w34 := (uu34 85 (by omega)).trans m15_w32
              have m16_w34 := (uu34 86 (by omega)).trans m16_w32
              have m17_w34 := (uu34 87 (by omega)).trans m17_w32
              have fr_w34 : ∀ j, (j < 77 ∨ 88 ≤ j) → w34 j = w j := fun j hj => (uu34 j (by omega)).trans (fr_w32 j hj)
              refine r_iinc X eX6_layBest_103 rfl (nI (v + 1)) (inc_nI _) (L2 := [some (.ref (b + 77)), some (.int (nI a)), some (.int (nI e)), some (.int (nI (v + 1))), some (.int (crS lw P (oV (a + e) v) 0))]) rfl ?_
              refine r_goto (tgt := 13) X eX6_layBest_106 (by decide) ?_
              refine r_fg 4 (L2 := [some (.ref (b + 77)), some (.int (nI a)), some (.int (nI e)), some (.int (nI (v + 1))), none]) rfl ?_
              exact ih3 (v + 1) ((runP lw P (oV (a + e) v)).1) ((runP lw P (oV (a + e) v)).2.1) scG (krS lw P (oV (a + e) v) 0) (crS lw P (oV (a + e) v) 0) (nI v) (nI 1) (krS lw P (oV (a + e) v) 0) grG mkG rsG seG w34 (by omega) (by rw [fS, if_pos (by omega)]; exact RB_new (by omega) rfl (Or.inr (Int32.lt_iff_toInt_lt.mpr (by rw [← hcp.2.1]; exact c_25)))) n34_w34 m8_w34 m9_w34 m10_w34 m11_w34 m12_w34 m13_w34 m14_w34 m15_w34 m16_w34 m17_w34 fr_w34 (by omega)
  exact lp3 _ 0 wd hg sc kc bc ((-6 : Int32)) (nI 0) bk gr mk rs se w2 (Nat.zero_le _) ⟨rfl, Or.inl ⟨rfl, rfl⟩⟩ n2_w2 m1_w2 m2_w2 m3_w2 m4_w2 m5_w2 m6_w2 m7_w2 m8_w2 m9_w2 m10_w2 fr_w2 (Nat.lt_succ_self _)
set_option maxHeartbeats 4000000 in
set_option maxRecDepth 100000 in
theorem c_X6_turned (l : Launch) (G : Gs) (b N : Nat) (w : Wd) (v k : Nat) (hk : k < 7) (hv : v < 2 ^ k) : CI l yX6_turned cX6_turned 4 (some .int) 0 G b N w [.int (nI v), .int (nI k)] (fun r w2 => r = nI (enc (oV k v)) ∧ w2 = w) := by
  refine CI_of (L0 := [some (.int (nI v)), some (.int (nI k)), none, none]) (by decide) rfl (by simp [Value.category]) rfl (Nat.le_of_ble_eq_true rfl) rfl (fun κ X ret => ?_)
  refine r_iconst X eX6_turned_0 (nI 0) (by decide) ?_
  refine r_istore_n X eX6_turned_1 (Nat.le_of_ble_eq_true rfl) (L2 := [some (.int (nI v)), some (.int (nI k)), some (.int (nI 0)), none]) rfl ?_
  refine r_iconst X eX6_turned_2 (nI 0) (by decide) ?_
  refine r_istore_n X eX6_turned_3 (Nat.le_of_ble_eq_true rfl) (L2 := [some (.int (nI v)), some (.int (nI k)), some (.int (nI 0)), some (.int (nI 0))]) rfl ?_
  have lp1 : ∀ (fu : Nat) (i : Nat), (i ≤ k) → k - i < fu → V κ G b (N, 0, 0) w 4 [some (.int (nI v)), some (.int (nI k)), some (.int (nI (tv k v i))), some (.int (nI i))] [] := by
    intro fu
    induction fu with
    | zero => intro i hi hm; exact absurd hm (Nat.not_lt_zero _)
    | succ fu ih1 =>
      intro i hi hm
      refine r_iload_n X eX6_turned_4 rfl ?_
      refine r_iload_n X eX6_turned_5 rfl ?_
      refine r_icmp_ge (tgt := 29) X eX6_turned_6 (by decide) (nI_toInt (by omega)) (nI_toInt (by omega)) (fun c_2 => ?_) (fun c_2 => ?_)
      ·
        refine r_iload_n X eX6_turned_29 rfl ?_
        exact ret _ _ _ _ _ eX6_turned_30 (⟨congrArg nI (by rw [show i = k by omega]; exact tv_end k hk v hv), rfl⟩)
      ·
        refine r_iload_n X eX6_turned_9 rfl ?_
        refine r_iload_n X eX6_turned_10 rfl ?_
        refine r_iload_n X eX6_turned_11 rfl ?_
        refine r_ishr X eX6_turned_12 ((nI v) >>> ((nI i) &&& 31)) rfl ?_
        refine r_iconst X eX6_turned_13 (nI 1) (by decide) ?_
        refine r_iand X eX6_turned_14 (((nI v) >>> ((nI i) &&& 31)) &&& (nI 1)) rfl ?_
        refine r_iload_n X eX6_turned_15 rfl ?_
        refine r_iconst X eX6_turned_16 (nI 1) (by decide) ?_
        refine r_isub X eX6_turned_17 (nI (k - 1)) (pk_sub (by omega)) ?_
        refine r_iload_n X eX6_turned_18 rfl ?_
        refine r_isub X eX6_turned_19 (nI (k - 1 - i)) (pk_sub (by omega)) ?_
        refine r_ishl X eX6_turned_20 ((((nI v) >>> ((nI i) &&& 31)) &&& (nI 1)) <<< ((nI (k - 1 - i)) &&& 31)) rfl ?_
        refine r_ior X eX6_turned_21 (nI (tv k v (i + 1))) (tv_tab k hk v hv i (by omega)) ?_
        refine r_istore_n X eX6_turned_22 (Nat.le_of_ble_eq_true rfl) (L2 := [some (.int (nI v)), some (.int (nI k)), some (.int (nI (tv k v (i + 1)))), some (.int (nI i))]) rfl ?_
        refine r_iinc X eX6_turned_23 rfl (nI (i + 1)) (inc_nI _) (L2 := [some (.int (nI v)), some (.int (nI k)), some (.int (nI (tv k v (i + 1)))), some (.int (nI (i + 1)))]) rfl ?_
        refine r_goto (tgt := 4) X eX6_turned_26 (by decide) ?_
        exact ih1 (i + 1)  (by omega)  (by omega)
  exact lp1 _ 0  (by omega)  (Nat.lt_succ_self _)
set_option maxHeartbeats 4000000 in
set_option maxRecDepth 100000 in
theorem c_X6_best (l : Launch) (G : Gs) (b N : Nat) (w : Wd) (hN : 88 ≤ N) (lw : Nat) (P : Pc) (n : Nat) (sg : Nat → Int32) (im : Nat → Nat × Pc) (kf : Nat → Int32) (hs : sysM G b w (lw, P, n, sg, im, kf)) (hkb : ∀ i, i < 2 → kf i = 0 ∨ kf i = 1) (x y what : Int32) : CI l yX6_best cX6_best 4 (some .int) 13 G b N w [.ref (b + 77), .int x, .int y, .int what] (fun r w2 => r = aBest lw P x y what ∧ sysM G b w2 (lw, P, n, sg, im, kf) ∧ ∀ j, (j < 77 ∨ 88 ≤ j) → w2 j = w j) := by
  obtain ⟨wd, hg, sc, kc, bc, bo, ag, bk, st, ims, gr, mk, rs, se, tt, tc, ⟨m0, m1, m2, m3, m4, m5, m6, m7, m8, m9, m10⟩, hst, himg, hn8⟩ := id hs
  dsimp only at m0 m3 m4 hst himg hn8
  obtain ⟨s1, e1, e2, e3, hP, hlw⟩ := id hst
  obtain ⟨o1, o2, o3, o4⟩ := id hP
  refine CI_of (L0 := [some (.ref (b + 77)), some (.int x), some (.int y), some (.int what)]) (by decide) rfl (by simp [Value.category]) rfl (Nat.le_of_ble_eq_true rfl) rfl (fun κ X ret => ?_)
  have fr_w : ∀ j, (j < 77 ∨ 88 ≤ j) → w j = w j := fun _ _ => rfl
  refine r_aload_n X eX6_best_0 rfl ?_
  refine r_iload_n X eX6_best_1 rfl ?_
  refine r_iload_n X eX6_best_2 rfl ?_
  refine cp_X6_177 X eX6_best_3 (c_X6_canGo _ G b N w hN n wd hg sc kc bc bo ag bk st ims kf sg gr mk rs se tt tc ⟨m0, m1, m2, m3, m4, m5, m6, m7, m8, m9, m10⟩ P hP e1 e2 x y) (by decide) (by omega) m0 rfl (Nat.le_of_ble_eq_true rfl) ?_
  refine r_ifeq_b (tgt := 18) X eX6_best_6 (by decide) (fun c_1 => ?_) (fun c_1 => ?_)
  ·
    refine r_bipush X eX6_best_18 ((-2 : Int32)) (by decide) ?_
    exact ret _ _ _ _ _ eX6_best_20 (⟨(if_neg (fun q => c_1 q.1)).symm, ⟨_, _, _, _, _, _, _, _, _, _, _, _, _, _, _, _, ⟨m0, m1, m2, m3, m4, m5, m6, m7, m8, m9, m10⟩, hst, himg, hn8⟩, fr_w⟩)
  ·
    refine r_iload_n X eX6_best_9 rfl ?_
    refine r_iconst X eX6_best_10 (nI 0) (by decide) ?_
    refine r_iconst X eX6_best_11 (nI 3) (by decide) ?_
    refine cp_X6_41 X eX6_best_12 (c_X6_in _ G b N w (what) (nI 0) (nI 3) (what.toInt) (0) (3) rfl (nI_toInt (by omega)) (nI_toInt (by omega))) (by decide) rfl (Nat.le_of_ble_eq_true rfl) ?_
    refine r_ifne_b (tgt := 21) X eX6_best_15 (by decide) (fun c_2 => ?_) (fun c_2 => ?_)
    ·
      obtain ⟨na, hna, rfl, hi_na⟩ := i2n (x := x) (by omega)
      obtain ⟨ne, hne, rfl, hi_ne⟩ := i2n (x := y) (by omega)
      refine r_aload_n X eX6_best_21 rfl ?_
      refine r_iload_n X eX6_best_22 rfl ?_
      refine r_iload_n X eX6_best_23 rfl ?_
      refine cv_X6_180 X eX6_best_24 (c_X6_layBest _ G b N w hN n wd hg sc kc bc bo ag bk st ims kf sg gr mk rs se tt tc ⟨m0, m1, m2, m3, m4, m5, m6, m7, m8, m9, m10⟩ P hP e1 e2 lw hlw e3 hst na ne (by omega) (by omega) (by omega)) (by decide) (by omega) m0 rfl (Nat.le_of_ble_eq_true rfl) (fun w3 hp3 => ?_)
      obtain ⟨wdL, hgL, scL, kcL, bcL, boL, agL, bkL, grL, mkL, rsL, seL, ⟨y0L, y1L, y2L, y3L, y4L, y5L, y6L, y7L, y8L, y9L, y10L⟩, hRB, gL⟩ := hp3
      have m4_w3 : w3 77 = .inr (6, [.ref (b + 78), .ref (b + 79), .ref (b + 80), .ref (b + 81), .int (nI n), .ref (b + 82), .ref (b + 83), .int (nI wdL), .int (nI hgL), .ref (b + 84), .ref (b + 85), .int scL, .int kcL, .int bcL, .int boL, .int agL, .int bkL, .ref (b + 86), .ref (b + 87)]) := y0L
      have m5_w3 : w3 78 = aI G 131 st := y1L
      have m6_w3 : w3 79 = aI G 262 ims := y2L
      have m7_w3 : w3 80 = aZ G 2 kf := y3L
      have m8_w3 : w3 81 = aI G 80 sg := y4L
      have m9_w3 : w3 82 = aI G 64 grL := y5L
      have m10_w3 : w3 83 = aI G 64 mkL := y6L
      have m11_w3 : w3 84 = aI G 64 rsL := y7L
      have m12_w3 : w3 85 = aI G 8 seL := y8L
      have m13_w3 : w3 86 = aI G 6272 tt := y9L
      have m14_w3 : w3 87 = aI G 49 tc := y10L
      have fr_w3 : ∀ j, (j < 77 ∨ 88 ≤ j) → w3 j = w j := fun j hj => (gL j (by omega)).trans (fr_w j hj)
      obtain ⟨hag, hR2⟩ := hRB
      obtain ⟨hb0, hb1, hb2, hb3, vb, hvb, hb4, hb5⟩ := hR2.resolve_left (fun h => by have hbp := (bs_ord (lw := lw) (P := P) (a := na) (e := ne)).1; omega)
      have h64 : 2 ^ (na + ne) ≤ 2 ^ 6 := Nat.pow_le_pow_right (by decide) (by omega)
      refine r_iload_n X eX6_best_27 rfl ?_
      refine r_if_ne (tgt := 42) X eX6_best_28 (by decide) rfl (fun c_15 => ?_) (fun c_15 => ?_)
      ·
        refine r_iload_n X eX6_best_42 rfl ?_
        refine r_iconst X eX6_best_43 (nI 1) (by decide) ?_
        refine r_icmp_ne (tgt := 54) X eX6_best_44 (by decide) rfl (nI_toInt (by omega)) (fun c_16 => ?_) (fun c_16 => ?_)
        ·
          refine r_iload_n X eX6_best_54 rfl ?_
          refine r_iconst X eX6_best_55 (nI 2) (by decide) ?_
          refine r_icmp_ne (tgt := 72) X eX6_best_56 (by decide) rfl (nI_toInt (by omega)) (fun c_17 => ?_) (fun c_17 => ?_)
          ·
            refine r_aload_n X eX6_best_72 rfl ?_
            refine gf_X6_174 X eX6_best_73 (by omega) m4_w3 ?_
            exact ret _ _ _ _ _ eX6_best_76 (⟨by rw [aBest, if_pos ⟨c_1, by omega, by omega⟩, if_neg (by omega), if_neg (by omega), if_neg (by omega), tn_nI hna, tn_nI hne, hb2], ⟨_, _, _, _, _, _, _, _, _, _, _, _, _, _, _, _, ⟨m4_w3, m5_w3, m6_w3, m7_w3, m8_w3, m9_w3, m10_w3, m11_w3, m12_w3, m13_w3, m14_w3⟩, hst, himg, hn8⟩, fr_w3⟩)
          ·
            refine r_aload_n X eX6_best_59 rfl ?_
            refine gf_X6_159 X eX6_best_60 (by omega) m4_w3 ?_
            refine r_top (y := nI vb) hb4 ?_
            refine r_iload_n X eX6_best_63 rfl ?_
            refine r_iload_n X eX6_best_64 rfl ?_
            refine r_iadd X eX6_best_65 (nI (na + ne)) (addN (by omega)) ?_
            refine cp_X6_184 X eX6_best_66 (c_X6_turned _ G b N w3 vb (na + ne) (by omega) hvb) (by decide) rfl (Nat.le_of_ble_eq_true rfl) ?_
            refine r_goto (tgt := 76) X eX6_best_69 (by decide) ?_
            exact ret _ _ _ _ _ eX6_best_76 (⟨by rw [aBest, if_pos ⟨c_1, by omega, by omega⟩, if_neg (by omega), if_neg (by omega), if_pos (by omega), tn_nI hna, tn_nI hne, hb5], ⟨_, _, _, _, _, _, _, _, _, _, _, _, _, _, _, _, ⟨m4_w3, m5_w3, m6_w3, m7_w3, m8_w3, m9_w3, m10_w3, m11_w3, m12_w3, m13_w3, m14_w3⟩, hst, himg, hn8⟩, fr_w3⟩)
        ·
          refine r_aload_n X eX6_best_47 rfl ?_
          refine gf_X6_162 X eX6_best_48 (by omega) m4_w3 ?_
          refine r_goto (tgt := 76) X eX6_best_51 (by decide) ?_
          exact ret _ _ _ _ _ eX6_best_76 (⟨by rw [aBest, if_pos ⟨c_1, by omega, by omega⟩, if_neg (by omega), if_pos (by omega), tn_nI hna, tn_nI hne, hag], ⟨_, _, _, _, _, _, _, _, _, _, _, _, _, _, _, _, ⟨m4_w3, m5_w3, m6_w3, m7_w3, m8_w3, m9_w3, m10_w3, m11_w3, m12_w3, m13_w3, m14_w3⟩, hst, himg, hn8⟩, fr_w3⟩)
      ·
        refine r_aload_n X eX6_best_31 rfl ?_
        refine gf_X6_171 X eX6_best_32 (by omega) m4_w3 ?_
        refine r_sipush X eX6_best_35 ((10000 : Int32)) (by decide) ?_
        refine r_iadd X eX6_best_38 (bcL + ((10000 : Int32))) rfl ?_
        refine r_goto (tgt := 76) X eX6_best_39 (by decide) ?_
        exact ret _ _ _ _ _ eX6_best_76 (⟨by rw [aBest, if_pos ⟨c_1, by omega, by omega⟩, if_pos (by omega), tn_nI hna, tn_nI hne, hb1], ⟨_, _, _, _, _, _, _, _, _, _, _, _, _, _, _, _, ⟨m4_w3, m5_w3, m6_w3, m7_w3, m8_w3, m9_w3, m10_w3, m11_w3, m12_w3, m13_w3, m14_w3⟩, hst, himg, hn8⟩, fr_w3⟩)
    ·
      refine r_bipush X eX6_best_18 ((-2 : Int32)) (by decide) ?_
      exact ret _ _ _ _ _ eX6_best_20 (⟨(if_neg (fun q => absurd q.2 (by omega))).symm, ⟨_, _, _, _, _, _, _, _, _, _, _, _, _, _, _, _, ⟨m0, m1, m2, m3, m4, m5, m6, m7, m8, m9, m10⟩, hst, himg, hn8⟩, fr_w⟩)
set_option maxHeartbeats 4000000 in
set_option maxRecDepth 100000 in
theorem c_X6_go (l : Launch) (G : Gs) (b N : Nat) (w : Wd) (hN : 88 ≤ N) (lw : Nat) (P : Pc) (n : Nat) (sg : Nat → Int32) (im : Nat → Nat × Pc) (kf : Nat → Int32) (hs : sysM G b w (lw, P, n, sg, im, kf)) (hkb : ∀ i, i < 2 → kf i = 0 ∨ kf i = 1) (x y : Int32) : CI l yX6_go cX6_go 4 (some .int) 13 G b N w [.ref (b + 77), .int x, .int y] (fun r w2 => r = (fGo lw P n sg im kf x y).1 ∧ sysM G b w2 (fGo lw P n sg im kf x y).2 ∧ ∀ j, (j < 77 ∨ 88 ≤ j) → w2 j = w j) := by
  obtain ⟨wd, hg, sc, kc, bc, bo, ag, bk, st, ims, gr, mk, rs, se, tt, tc, ⟨m0, m1, m2, m3, m4, m5, m6, m7, m8, m9, m10⟩, hst, himg, hn8⟩ := id hs
  dsimp only at m0 m3 m4 hst himg hn8
  obtain ⟨s1, e1, e2, e3, hP, hlw⟩ := id hst
  obtain ⟨o1, o2, o3, o4⟩ := id hP
  refine CI_of (L0 := [some (.ref (b + 77)), some (.int x), some (.int y), none]) (by decide) rfl (by simp [Value.category]) rfl (Nat.le_of_ble_eq_true rfl) rfl (fun κ X ret => ?_)
  have fr_w : ∀ j, (j < 77 ∨ 88 ≤ j) → w j = w j := fun _ _ => rfl
  refine r_aload_n X eX6_go_0 rfl ?_
  refine r_iload_n X eX6_go_1 rfl ?_
  refine r_iload_n X eX6_go_2 rfl ?_
  refine cp_X6_177 X eX6_go_3 (c_X6_canGo _ G b N w hN n wd hg sc kc bc bo ag bk st ims kf sg gr mk rs se tt tc ⟨m0, m1, m2, m3, m4, m5, m6, m7, m8, m9, m10⟩ P hP e1 e2 x y) (by decide) (by omega) m0 rfl (Nat.le_of_ble_eq_true rfl) ?_
  refine r_ifne_b (tgt := 12) X eX6_go_6 (by decide) (fun c_1 => ?_) (fun c_1 => ?_)
  ·
    obtain ⟨na, hna, rfl, hi_na⟩ := i2n (x := x) (by omega)
    obtain ⟨ne, hne, rfl, hi_ne⟩ := i2n (x := y) (by omega)
    refine r_aload_n X eX6_go_12 rfl ?_
    refine r_iload_n X eX6_go_13 rfl ?_
    refine r_iload_n X eX6_go_14 rfl ?_
    refine cv_X6_180 X eX6_go_15 (c_X6_layBest _ G b N w hN n wd hg sc kc bc bo ag bk st ims kf sg gr mk rs se tt tc ⟨m0, m1, m2, m3, m4, m5, m6, m7, m8, m9, m10⟩ P hP e1 e2 lw hlw e3 hst na ne (by omega) (by omega) (by omega)) (by decide) (by omega) m0 rfl (Nat.le_of_ble_eq_true rfl) (fun w2 hp2 => ?_)
    obtain ⟨wdL, hgL, scL, kcL, bcL, boL, agL, bkL, grL, mkL, rsL, seL, ⟨y0L, y1L, y2L, y3L, y4L, y5L, y6L, y7L, y8L, y9L, y10L⟩, hRB, gL⟩ := hp2
    have m3_w2 : w2 77 = .inr (6, [.ref (b + 78), .ref (b + 79), .ref (b + 80), .ref (b + 81), .int (nI n), .ref (b + 82), .ref (b + 83), .int (nI wdL), .int (nI hgL), .ref (b + 84), .ref (b + 85), .int scL, .int kcL, .int bcL, .int boL, .int agL, .int bkL, .ref (b + 86), .ref (b + 87)]) := y0L
    have m4_w2 : w2 78 = aI G 131 st := y1L
    have m5_w2 : w2 79 = aI G 262 ims := y2L
    have m6_w2 : w2 80 = aZ G 2 kf := y3L
    have m7_w2 : w2 81 = aI G 80 sg := y4L
    have m8_w2 : w2 82 = aI G 64 grL := y5L
    have m9_w2 : w2 83 = aI G 64 mkL := y6L
    have m10_w2 : w2 84 = aI G 64 rsL := y7L
    have m11_w2 : w2 85 = aI G 8 seL := y8L
    have m12_w2 : w2 86 = aI G 6272 tt := y9L
    have m13_w2 : w2 87 = aI G 49 tc := y10L
    have fr_w2 : ∀ j, (j < 77 ∨ 88 ≤ j) → w2 j = w j := fun j hj => (gL j (by omega)).trans (fr_w j hj)
    obtain ⟨hag, hR2⟩ := hRB
    obtain ⟨hb0, hb1, hb2, hb3, vb, hvb, hb4, hb5⟩ := hR2.resolve_left (fun h => by have hbp := (bs_ord (lw := lw) (P := P) (a := na) (e := ne)).1; omega)
    have h64 : 2 ^ (na + ne) ≤ 2 ^ 6 := Nat.pow_le_pow_right (by decide) (by omega)
    refine r_aload_n X eX6_go_18 rfl ?_
    refine r_aload_n X eX6_go_19 rfl ?_
    refine gf_X6_159 X eX6_go_20 (by omega) m3_w2 ?_
    refine r_top (y := nI vb) hb4 ?_
    refine r_iload_n X eX6_go_23 rfl ?_
    refine r_iload_n X eX6_go_24 rfl ?_
    refine r_iadd X eX6_go_25 (nI (na + ne)) (addN (by omega)) ?_
    have hord := (bs_ord (lw := lw) (P := P) (a := na) (e := ne)).2
    rw [hb5] at hord
    have hokV : okR P (oV (na + ne) vb) := ⟨by rw [hord.2.2.1]; omega, o2, by rw [hord.2.2.2]; omega, o4⟩
    have hokE := okR_end (lw := lw) _ P (oV_lt vb _) hokV
    refine cv_X6_168 X eX6_go_26 (c_X6_goOrder _ G b N w2 hN n wdL hgL scL kcL bcL boL agL bkL st ims kf sg grL mkL rsL seL tt tc ⟨m3_w2, m4_w2, m5_w2, m6_w2, m7_w2, m8_w2, m9_w2, m10_w2, m11_w2, m12_w2, m13_w2⟩ P hP e1 e2 lw hlw e3 hst vb (na + ne) (by omega) (by omega) hokV) (by decide) (by omega) m3_w2 rfl (Nat.le_of_ble_eq_true rfl) (fun r14 w14 hp14 => ?_)
    obtain ⟨roG, ⟨scG, grG, mkG, rsG, seG, ⟨y0G, y1G, y2G, y3G, y4G, y5G, y6G, y7G, y8G, y9G, y10G⟩, hagG, gG⟩⟩ := hp14
    have m15_w14 : w14 77 = .inr (6, [.ref (b + 78), .ref (b + 79), .ref (b + 80), .ref (b + 81), .int (nI n), .ref (b + 82), .ref (b + 83), .int (nI ((runP lw P (oV (na + ne) vb)).1)), .int (nI ((runP lw P (oV (na + ne) vb)).2.1)), .ref (b + 84), .ref (b + 85), .int scG, .int (krS lw P (oV (na + ne) vb) 0), .int bcL, .int boL, .int agL, .int bkL, .ref (b + 86), .ref (b + 87)]) := y0G
    have m16_w14 : w14 78 = aI G 131 st := y1G
    have m17_w14 : w14 79 = aI G 262 ims := y2G
    have m18_w14 : w14 80 = aZ G 2 kf := y3G
    have m19_w14 : w14 81 = aI G 80 sg := y4G
    have m20_w14 : w14 82 = aI G 64 grG := y5G
    have m21_w14 : w14 83 = aI G 64 mkG := y6G
    have m22_w14 : w14 84 = aI G 64 rsG := y7G
    have m23_w14 : w14 85 = aI G 8 seG := y8G
    have m24_w14 : w14 86 = aI G 6272 tt := y9G
    have m25_w14 : w14 87 = aI G 49 tc := y10G
    have fr_w14 : ∀ j, (j < 77 ∨ 88 ≤ j) → w14 j = w j := fun j hj => (gG j (by omega)).trans (fr_w2 j hj)
    rw [roG]
    refine r_istore_n X eX6_go_29 (Nat.le_of_ble_eq_true rfl) (L2 := [some (.ref (b + 77)), some (.int (nI na)), some (.int (nI ne)), some (.int (crS lw P (oV (na + ne) vb) 0))]) rfl ?_
    refine r_aload_n X eX6_go_30 rfl ?_
    refine cv_X6_153 X eX6_go_31 (c_X6_give _ G b N w14 hN n ((runP lw P (oV (na + ne) vb)).1) ((runP lw P (oV (na + ne) vb)).2.1) scG (krS lw P (oV (na + ne) vb) 0) bcL boL agL bkL st ims kf sg grG mkG rsG seG tt tc ⟨m15_w14, m16_w14, m17_w14, m18_w14, m19_w14, m20_w14, m21_w14, m22_w14, m23_w14, m24_w14, m25_w14⟩ hokE.2.1 hokE.2.2.2) (by decide) (by omega) m15_w14 rfl (Nat.le_of_ble_eq_true rfl) (fun w26 hp26 => ?_)
    obtain ⟨st2, ⟨y0V, y1V, y2V, y3V, y4V, y5V, y6V, y7V, y8V, y9V, y10V⟩, hv1, hv2, hv3, hv4, gV⟩ := hp26
    have m27_w26 : w26 77 = .inr (6, [.ref (b + 78), .ref (b + 79), .ref (b + 80), .ref (b + 81), .int (nI n), .ref (b + 82), .ref (b + 83), .int (nI ((runP lw P (oV (na + ne) vb)).1)), .int (nI ((runP lw P (oV (na + ne) vb)).2.1)), .ref (b + 84), .ref (b + 85), .int scG, .int (krS lw P (oV (na + ne) vb) 0), .int bcL, .int boL, .int agL, .int bkL, .ref (b + 86), .ref (b + 87)]) := y0V
    have m28_w26 : w26 78 = aI G 131 st2 := y1V
    have m29_w26 : w26 79 = aI G 262 ims := y2V
    have m30_w26 : w26 80 = aZ G 2 kf := y3V
    have m31_w26 : w26 81 = aI G 80 sg := y4V
    have m32_w26 : w26 82 = aI G 64 grG := y5V
    have m33_w26 : w26 83 = aI G 64 mkG := y6V
    have m34_w26 : w26 84 = aI G 64 rsG := y7V
    have m35_w26 : w26 85 = aI G 8 seG := y8V
    have m36_w26 : w26 86 = aI G 6272 tt := y9V
    have m37_w26 : w26 87 = aI G 49 tc := y10V
    have fr_w26 : ∀ j, (j < 77 ∨ 88 ≤ j) → w26 j = w j := fun j hj => (gV j (by omega)).trans (fr_w14 j hj)
    refine r_iload_n X eX6_go_34 rfl ?_
    refine r_sipush X eX6_go_35 ((10000 : Int32)) (by decide) ?_
    refine r_iadd X eX6_go_38 ((crS lw P (oV (na + ne) vb) 0) + ((10000 : Int32))) rfl ?_
    exact ret _ _ _ _ _ eX6_go_39 (by rw [show fGo lw P n sg im kf (nI na) (nI ne) = (crS lw P (oV (na + ne) vb) 0 + 10000, (lw, runP lw P (oV (na + ne) vb), n, sg, im, kf)) from by rw [fGo, if_pos c_1, tn_nI hna, tn_nI hne, hb3, hb5]]; exact ⟨rfl, ⟨_, _, _, _, _, _, _, _, _, _, _, _, _, _, _, _, ⟨m27_w26, m28_w26, m29_w26, m30_w26, m31_w26, m32_w26, m33_w26, m34_w26, m35_w26, m36_w26, m37_w26⟩, stI_of hokE hlw hagG hv1 hv2 hv3 (hv4.trans e3), himg, hn8⟩, fr_w26⟩)
  ·
    refine r_bipush X eX6_go_9 ((-2 : Int32)) (by decide) ?_
    exact ret _ _ _ _ _ eX6_go_11 (by rw [show fGo lw P n sg im kf x y = (-2, (lw, P, n, sg, im, kf)) from if_neg c_1]; exact ⟨rfl, ⟨_, _, _, _, _, _, _, _, _, _, _, _, _, _, _, _, ⟨m0, m1, m2, m3, m4, m5, m6, m7, m8, m9, m10⟩, hst, himg, hn8⟩, fr_w⟩)
