theorem bI_ext {P Q : Prop} [Decidable P] [Decidable Q] (h : P ↔ Q) : bI P = bI Q := by
  by_cases p : P
  · rw [← bI_t p, ← bI_t (h.mp p)]
  · rw [← bI_f p, ← bI_f (fun q => p (h.mpr q))]
set_option maxHeartbeats 4000000 in
set_option maxRecDepth 100000 in
theorem c_X6_isDot (l : Launch) (G : Gs) (b N : Nat) (w : Wd) (hN : 88 ≤ N) (n wd hg : Nat) (sc kc bc bo ag bk : Int32) (st ims kf sg gr mk rs se tt tc : Nat → Int32) (hm : mW G b w n wd hg sc kc bc bo ag bk st ims kf sg gr mk rs se tt tc) (P : Pc) (hP : okPc P) (e1 : st 128 = nI P.1) (e2 : st 129 = nI P.2.1) (x y : Int32) : CI l yX6_isDot cX6_isDot 3 (some .boolean) 1 G b N w [.ref (b + 77), .int x, .int y] (fun r w2 => r = bI (dotC P x y) ∧ w2 = w) := by
  obtain ⟨m0, m1, m2, m3, m4, m5, m6, m7, m8, m9, m10⟩ := hm
  obtain ⟨o1, o2, o3, o4⟩ := hP
  refine CZ_of (L0 := [some (.ref (b + 77)), some (.int x), some (.int y)]) (by decide) rfl (by simp [Value.category]) rfl (Nat.le_of_ble_eq_true rfl) rfl (fun κ X ret => ?_)
  refine r_iload_n X eX6_isDot_0 rfl ?_
  refine r_iconst X eX6_isDot_1 (nI 0) (by decide) ?_
  refine r_aload_n X eX6_isDot_2 rfl ?_
  refine gf_X6_7 X eX6_isDot_3 (by omega) m0 ?_
  refine r_sipush X eX6_isDot_6 (nI 128) (by decide) ?_
  refine r_iald X eX6_isDot_9 (by omega) m1 (by omega) (by decide) ?_
  refine r_top (y := nI P.1) e1 ?_
  refine r_iconst X eX6_isDot_10 (nI 1) (by decide) ?_
  refine r_isub X eX6_isDot_11 (nI (P.1 - 1)) (pk_sub (by omega)) ?_
  refine cp_X6_41 X eX6_isDot_12 (c_X6_in _ G b N w (x) (nI 0) (nI (P.1 - 1)) (x.toInt) (0) (((P.1 - 1 : Nat) : Int)) rfl (nI_toInt (by omega)) (nI_toInt (by omega))) (by decide) rfl (Nat.le_of_ble_eq_true rfl) ?_
  refine r_ifeq_b (tgt := 40) X eX6_isDot_15 (by decide) (fun c_1 => ?_) (fun c_1 => ?_)
  ·
    refine r_iconst X eX6_isDot_40 (nI 0) (by decide) ?_
    exact ret _ _ _ _ _ eX6_isDot_41 (Or.inl rfl) (⟨bI_f (by omega), rfl⟩)
  ·
    refine r_iload_n X eX6_isDot_18 rfl ?_
    refine r_iconst X eX6_isDot_19 (nI 0) (by decide) ?_
    refine r_aload_n X eX6_isDot_20 rfl ?_
    refine gf_X6_7 X eX6_isDot_21 (by omega) m0 ?_
    refine r_sipush X eX6_isDot_24 (nI 129) (by decide) ?_
    refine r_iald X eX6_isDot_27 (by omega) m1 (by omega) (by decide) ?_
    refine r_top (y := nI P.2.1) e2 ?_
    refine r_iconst X eX6_isDot_28 (nI 1) (by decide) ?_
    refine r_isub X eX6_isDot_29 (nI (P.2.1 - 1)) (pk_sub (by omega)) ?_
    refine cp_X6_41 X eX6_isDot_30 (c_X6_in _ G b N w (y) (nI 0) (nI (P.2.1 - 1)) (y.toInt) (0) (((P.2.1 - 1 : Nat) : Int)) rfl (nI_toInt (by omega)) (nI_toInt (by omega))) (by decide) rfl (Nat.le_of_ble_eq_true rfl) ?_
    refine r_ifeq_b (tgt := 40) X eX6_isDot_33 (by decide) (fun c_2 => ?_) (fun c_2 => ?_)
    ·
      refine r_iconst X eX6_isDot_40 (nI 0) (by decide) ?_
      exact ret _ _ _ _ _ eX6_isDot_41 (Or.inl rfl) (⟨bI_f (by omega), rfl⟩)
    ·
      refine r_iconst X eX6_isDot_36 (nI 1) (by decide) ?_
      refine r_goto (tgt := 41) X eX6_isDot_37 (by decide) ?_
      exact ret _ _ _ _ _ eX6_isDot_41 (Or.inr rfl) (⟨bI_t (by omega), rfl⟩)
set_option maxHeartbeats 4000000 in
set_option maxRecDepth 100000 in
theorem c_X6_canGo (l : Launch) (G : Gs) (b N : Nat) (w : Wd) (hN : 88 ≤ N) (n wd hg : Nat) (sc kc bc bo ag bk : Int32) (st ims kf sg gr mk rs se tt tc : Nat → Int32) (hm : mW G b w n wd hg sc kc bc bo ag bk st ims kf sg gr mk rs se tt tc) (P : Pc) (hP : okPc P) (e1 : st 128 = nI P.1) (e2 : st 129 = nI P.2.1) (x y : Int32) : CI l yX6_canGo cX6_canGo 3 (some .boolean) 1 G b N w [.ref (b + 77), .int x, .int y] (fun r w2 => r = bI (reC P x y) ∧ w2 = w) := by
  obtain ⟨m0, m1, m2, m3, m4, m5, m6, m7, m8, m9, m10⟩ := hm
  obtain ⟨o1, o2, o3, o4⟩ := hP
  refine CZ_of (L0 := [some (.ref (b + 77)), some (.int x), some (.int y)]) (by decide) rfl (by simp [Value.category]) rfl (Nat.le_of_ble_eq_true rfl) rfl (fun κ X ret => ?_)
  refine r_iload_n X eX6_canGo_0 rfl ?_
  refine r_iconst X eX6_canGo_1 (nI 0) (by decide) ?_
  refine r_aload_n X eX6_canGo_2 rfl ?_
  refine gf_X6_7 X eX6_canGo_3 (by omega) m0 ?_
  refine r_sipush X eX6_canGo_6 (nI 128) (by decide) ?_
  refine r_iald X eX6_canGo_9 (by omega) m1 (by omega) (by decide) ?_
  refine r_top (y := nI P.1) e1 ?_
  refine r_iconst X eX6_canGo_10 (nI 2) (by decide) ?_
  refine r_isub X eX6_canGo_11 (nI (P.1 - 2)) (pk_sub (by omega)) ?_
  refine cp_X6_41 X eX6_canGo_12 (c_X6_in _ G b N w (x) (nI 0) (nI (P.1 - 2)) (x.toInt) (0) (((P.1 - 2 : Nat) : Int)) rfl (nI_toInt (by omega)) (nI_toInt (by omega))) (by decide) rfl (Nat.le_of_ble_eq_true rfl) ?_
  refine r_ifeq_b (tgt := 48) X eX6_canGo_15 (by decide) (fun c_1 => ?_) (fun c_1 => ?_)
  ·
    refine r_iconst X eX6_canGo_48 (nI 0) (by decide) ?_
    exact ret _ _ _ _ _ eX6_canGo_49 (Or.inl rfl) (⟨bI_f (by omega), rfl⟩)
  ·
    refine r_iload_n X eX6_canGo_18 rfl ?_
    refine r_iconst X eX6_canGo_19 (nI 0) (by decide) ?_
    refine r_aload_n X eX6_canGo_20 rfl ?_
    refine gf_X6_7 X eX6_canGo_21 (by omega) m0 ?_
    refine r_sipush X eX6_canGo_24 (nI 129) (by decide) ?_
    refine r_iald X eX6_canGo_27 (by omega) m1 (by omega) (by decide) ?_
    refine r_top (y := nI P.2.1) e2 ?_
    refine r_iconst X eX6_canGo_28 (nI 2) (by decide) ?_
    refine r_isub X eX6_canGo_29 (nI (P.2.1 - 2)) (pk_sub (by omega)) ?_
    refine cp_X6_41 X eX6_canGo_30 (c_X6_in _ G b N w (y) (nI 0) (nI (P.2.1 - 2)) (y.toInt) (0) (((P.2.1 - 2 : Nat) : Int)) rfl (nI_toInt (by omega)) (nI_toInt (by omega))) (by decide) rfl (Nat.le_of_ble_eq_true rfl) ?_
    refine r_ifeq_b (tgt := 48) X eX6_canGo_33 (by decide) (fun c_2 => ?_) (fun c_2 => ?_)
    ·
      refine r_iconst X eX6_canGo_48 (nI 0) (by decide) ?_
      exact ret _ _ _ _ _ eX6_canGo_49 (Or.inl rfl) (⟨bI_f (by omega), rfl⟩)
    ·
      refine r_iload_n X eX6_canGo_36 rfl ?_
      refine r_iload_n X eX6_canGo_37 rfl ?_
      refine r_iadd X eX6_canGo_38 (x + y) rfl ?_
      refine r_bipush X eX6_canGo_39 (nI 6) (by decide) ?_
      refine r_icmp_gt (tgt := 48) X eX6_canGo_41 (by decide) (i_add (by omega) (by omega) (by omega) (by omega)) (nI_toInt (by omega)) (fun c_3 => ?_) (fun c_3 => ?_)
      ·
        refine r_iconst X eX6_canGo_48 (nI 0) (by decide) ?_
        exact ret _ _ _ _ _ eX6_canGo_49 (Or.inl rfl) (⟨bI_f (by omega), rfl⟩)
      ·
        refine r_iconst X eX6_canGo_44 (nI 1) (by decide) ?_
        refine r_goto (tgt := 49) X eX6_canGo_45 (by decide) ?_
        exact ret _ _ _ _ _ eX6_canGo_49 (Or.inr rfl) (⟨bI_t (by omega), rfl⟩)
set_option maxHeartbeats 4000000 in
set_option maxRecDepth 100000 in
theorem c_X6_isWay (l : Launch) (G : Gs) (b N : Nat) (w : Wd) (x : Int32) : CI l yX6_isWay cX6_isWay 1 (some .boolean) 1 G b N w [.int x] (fun r w2 => r = bI (bitC x) ∧ w2 = w) := by
  refine CZ_of (L0 := [some (.int x)]) (by decide) rfl (by simp [Value.category]) rfl (Nat.le_of_ble_eq_true rfl) rfl (fun κ X ret => ?_)
  refine r_iload_n X eX6_isWay_0 rfl ?_
  refine r_iconst X eX6_isWay_1 (nI 0) (by decide) ?_
  refine r_iconst X eX6_isWay_2 (nI 1) (by decide) ?_
  refine cp_X6_41 X eX6_isWay_3 (c_X6_in _ G b N w (x) (nI 0) (nI 1) (x.toInt) (0) (1) rfl (nI_toInt (by omega)) (nI_toInt (by omega))) (by decide) rfl (Nat.le_of_ble_eq_true rfl) ?_
  exact ret _ _ _ _ _ eX6_isWay_6 (bI_or _) (⟨bI_ext (by omega), rfl⟩)
set_option maxHeartbeats 4000000 in
set_option maxRecDepth 100000 in
theorem c_X6_size_ (l : Launch) (G : Gs) (b N : Nat) (w : Wd) (hN : 88 ≤ N) (lw : Nat) (P : Pc) (n : Nat) (sg : Nat → Int32) (im : Nat → Nat × Pc) (kf : Nat → Int32) (hs : sysM G b w (lw, P, n, sg, im, kf)) (hkb : ∀ i, i < 2 → kf i = 0 ∨ kf i = 1) (x y : Int32) : CI l yX6_size_ cX6_size_ 5 (some .int) 1 G b N w [.ref (b + 77), .int x, .int y] (fun r w2 => r = (fSize lw P n sg im kf x y).1 ∧ sysM G b w2 (fSize lw P n sg im kf x y).2 ∧ ∀ j, (j < 77 ∨ 88 ≤ j) → w2 j = w j) := by
  obtain ⟨wd, hg, sc, kc, bc, bo, ag, bk, st, ims, gr, mk, rs, se, tt, tc, ⟨m0, m1, m2, m3, m4, m5, m6, m7, m8, m9, m10⟩, hst, himg, hn8⟩ := id hs
  dsimp only at m0 m3 m4 hst himg hn8
  obtain ⟨s1, e1, e2, e3, hP, hlw⟩ := id hst
  obtain ⟨o1, o2, o3, o4⟩ := id hP
  refine CI_of (L0 := [some (.ref (b + 77)), some (.int x), some (.int y), none, none]) (by decide) rfl (by simp [Value.category]) rfl (Nat.le_of_ble_eq_true rfl) rfl (fun κ X ret => ?_)
  have fr_w : ∀ j, (j < 77 ∨ 88 ≤ j) → w j = w j := fun _ _ => rfl
  refine r_iload_n X eX6_size__0 rfl ?_
  refine r_iconst X eX6_size__1 (nI 2) (by decide) ?_
  refine r_bipush X eX6_size__2 (nI 8) (by decide) ?_
  refine cp_X6_41 X eX6_size__4 (c_X6_in _ G b N w (x) (nI 2) (nI 8) (x.toInt) (2) (8) rfl (nI_toInt (by omega)) (nI_toInt (by omega))) (by decide) rfl (Nat.le_of_ble_eq_true rfl) ?_
  refine r_ifeq_b (tgt := 20) X eX6_size__7 (by decide) (fun c_1 => ?_) (fun c_1 => ?_)
  ·
    refine r_bipush X eX6_size__20 ((-2 : Int32)) (by decide) ?_
    exact ret _ _ _ _ _ eX6_size__22 (by rw [show fSize lw P n sg im kf x y = (-2, (lw, P, n, sg, im, kf)) from if_neg (by omega)]; exact ⟨rfl, ⟨_, _, _, _, _, _, _, _, _, _, _, _, _, _, _, _, ⟨m0, m1, m2, m3, m4, m5, m6, m7, m8, m9, m10⟩, hst, himg, hn8⟩, fr_w⟩)
  ·
    refine r_iload_n X eX6_size__10 rfl ?_
    refine r_iconst X eX6_size__11 (nI 2) (by decide) ?_
    refine r_bipush X eX6_size__12 (nI 8) (by decide) ?_
    refine cp_X6_41 X eX6_size__14 (c_X6_in _ G b N w (y) (nI 2) (nI 8) (y.toInt) (2) (8) rfl (nI_toInt (by omega)) (nI_toInt (by omega))) (by decide) rfl (Nat.le_of_ble_eq_true rfl) ?_
    refine r_ifne_b (tgt := 23) X eX6_size__17 (by decide) (fun c_2 => ?_) (fun c_2 => ?_)
    ·
      obtain ⟨nx, hnx, rfl, hi_nx⟩ := i2n (x := x) (by omega)
      obtain ⟨ny, hny, rfl, hi_ny⟩ := i2n (x := y) (by omega)
      refine r_bipush X eX6_size__23 (nI 10) (by decide) ?_
      refine r_aload_n X eX6_size__25 rfl ?_
      refine gf_X6_7 X eX6_size__26 (by omega) m0 ?_
      refine r_sipush X eX6_size__29 (nI 128) (by decide) ?_
      refine r_iald X eX6_size__32 (by omega) m1 (by omega) (by decide) ?_
      refine r_top (y := nI P.1) e1 ?_
      refine r_imul X eX6_size__33 (nI (10 * P.1)) (pk_mul _ _) ?_
      refine r_aload_n X eX6_size__34 rfl ?_
      refine gf_X6_7 X eX6_size__35 (by omega) m0 ?_
      refine r_sipush X eX6_size__38 (nI 129) (by decide) ?_
      refine r_iald X eX6_size__41 (by omega) m1 (by omega) (by decide) ?_
      refine r_top (y := nI P.2.1) e2 ?_
      refine r_iadd X eX6_size__42 (nI ((10 * P.1) + P.2.1)) (addN (by omega)) ?_
      refine r_istore_n X eX6_size__43 (Nat.le_of_ble_eq_true rfl) (L2 := [some (.ref (b + 77)), some (.int (nI nx)), some (.int (nI ny)), some (.int (nI ((10 * P.1) + P.2.1))), none]) rfl ?_
      refine r_iconst X eX6_size__44 (nI 0) (by decide) ?_
      refine r_istore X eX6_size__45 (Nat.le_of_ble_eq_true rfl) (L2 := [some (.ref (b + 77)), some (.int (nI nx)), some (.int (nI ny)), some (.int (nI ((10 * P.1) + P.2.1))), some (.int (nI 0))]) rfl ?_
      have lp3 : ∀ (fu : Nat) (i : Nat) (A : Nat → Int32) (w3 : Wd), (i ≤ 128) → (∀ j, j < i → A j = 0) → (A 130 = nI lw) → (w3 77 = .inr (6, [.ref (b + 78), .ref (b + 79), .ref (b + 80), .ref (b + 81), .int (nI n), .ref (b + 82), .ref (b + 83), .int (nI wd), .int (nI hg), .ref (b + 84), .ref (b + 85), .int sc, .int kc, .int bc, .int bo, .int ag, .int bk, .ref (b + 86), .ref (b + 87)])) → (w3 78 = aI G 131 A) → (w3 79 = aI G 262 ims) → (w3 80 = aZ G 2 kf) → (w3 81 = aI G 80 sg) → (w3 82 = aI G 64 gr) → (w3 83 = aI G 64 mk) → (w3 84 = aI G 64 rs) → (w3 85 = aI G 8 se) → (w3 86 = aI G 6272 tt) → (w3 87 = aI G 49 tc) → (∀ j, (j < 77 ∨ 88 ≤ j) → w3 j = w j) → 128 - i < fu → V κ G b (N, 0, 0) w3 47 [some (.ref (b + 77)), some (.int (nI nx)), some (.int (nI ny)), some (.int (nI ((10 * P.1) + P.2.1))), some (.int (nI i))] [] := by
        intro fu
        induction fu with
        | zero => intro i A w3 hi hz ha m0_w3 m1_w3 m2_w3 m3_w3 m4_w3 m5_w3 m6_w3 m7_w3 m8_w3 m9_w3 m10_w3 fr_w3 hm; exact absurd hm (Nat.not_lt_zero _)
        | succ fu ih3 =>
          intro i A w3 hi hz ha m0_w3 m1_w3 m2_w3 m3_w3 m4_w3 m5_w3 m6_w3 m7_w3 m8_w3 m9_w3 m10_w3 fr_w3 hm
          refine r_iload X eX6_size__47 rfl ?_
          refine r_sipush X eX6_size__49 (nI 128) (by decide) ?_
          refine r_icmp_ge (tgt := 69) X eX6_size__52 (by decide) (nI_toInt (by omega)) (nI_toInt (by omega)) (fun c_4 => ?_) (fun c_4 => ?_)
          ·
            refine r_aload_n X eX6_size__69 rfl ?_
            refine gf_X6_7 X eX6_size__70 (by omega) m0_w3 ?_
            refine r_sipush X eX6_size__73 (nI 128) (by decide) ?_
            refine r_iload_n X eX6_size__76 rfl ?_
            refine r_iast X eX6_size__77 (by omega) m1_w3 (by omega) (by decide) (fun w5 n5_w5 uu5 => ?_)
            have m0_w5 := (uu5 77 (by omega)).trans m0_w3
            have m2_w5 := (uu5 79 (by omega)).trans m2_w3
            have m3_w5 := (uu5 80 (by omega)).trans m3_w3
            have m4_w5 := (uu5 81 (by omega)).trans m4_w3
            have m5_w5 := (uu5 82 (by omega)).trans m5_w3
            have m6_w5 := (uu5 83 (by omega)).trans m6_w3
            have m7_w5 := (uu5 84 (by omega)).trans m7_w3
            have m8_w5 := (uu5 85 (by omega)).trans m8_w3
            have m9_w5 := (uu5 86 (by omega)).trans m9_w3
            have m10_w5 := (uu5 87 (by omega)).trans m10_w3
            have fr_w5 : ∀ j, (j < 77 ∨ 88 ≤ j) → w5 j = w j := fun j hj => (uu5 j (by omega)).trans (fr_w3 j hj)
            refine r_aload_n X eX6_size__78 rfl ?_
            refine gf_X6_7 X eX6_size__79 (by omega) m0_w5 ?_
            refine r_sipush X eX6_size__82 (nI 129) (by decide) ?_
            refine r_iload_n X eX6_size__85 rfl ?_
            refine r_iast X eX6_size__86 (by omega) n5_w5 (by omega) (by decide) (fun w6 n6_w6 uu6 => ?_)
            have m0_w6 := (uu6 77 (by omega)).trans m0_w5
            have m2_w6 := (uu6 79 (by omega)).trans m2_w5
            have m3_w6 := (uu6 80 (by omega)).trans m3_w5
            have m4_w6 := (uu6 81 (by omega)).trans m4_w5
            have m5_w6 := (uu6 82 (by omega)).trans m5_w5
            have m6_w6 := (uu6 83 (by omega)).trans m6_w5
            have m7_w6 := (uu6 84 (by omega)).trans m7_w5
            have m8_w6 := (uu6 85 (by omega)).trans m8_w5
            have m9_w6 := (uu6 86 (by omega)).trans m9_w5
            have m10_w6 := (uu6 87 (by omega)).trans m10_w5
            have fr_w6 : ∀ j, (j < 77 ∨ 88 ≤ j) → w6 j = w j := fun j hj => (uu6 j (by omega)).trans (fr_w5 j hj)
            refine r_iload_n X eX6_size__87 rfl ?_
            exact ret _ _ _ _ _ eX6_size__88 (by rw [show fSize lw P n sg im kf (nI nx) (nI ny) = (nI (10 * P.1 + P.2.1), (lw, (nx, ny, fun _ _ => 0, fun _ _ => 0), n, sg, im, kf)) from by rw [fSize, if_pos (by omega), tn_nI hnx, tn_nI hny]]; exact ⟨rfl, ⟨_, _, _, _, _, _, _, _, _, _, _, _, _, _, _, _, ⟨m0_w6, n6_w6, m2_w6, m3_w6, m4_w6, m5_w6, m6_w6, m7_w6, m8_w6, m9_w6, m10_w6⟩, stI_blank (fun j hj => hz j (by omega)) ha hlw (by omega) (by omega) (by omega) (by omega), himg, hn8⟩, fr_w6⟩)
          ·
            refine r_aload_n X eX6_size__55 rfl ?_
            refine gf_X6_7 X eX6_size__56 (by omega) m0_w3 ?_
            refine r_iload X eX6_size__59 rfl ?_
            refine r_iconst X eX6_size__61 ((0 : Int32)) (by decide) ?_
            refine r_iast X eX6_size__62 (by omega) m1_w3 (by omega) (by decide) (fun w7 n7_w7 uu7 => ?_)
            have m0_w7 := (uu7 77 (by omega)).trans m0_w3
            have m2_w7 := (uu7 79 (by omega)).trans m2_w3
            have m3_w7 := (uu7 80 (by omega)).trans m3_w3
            have m4_w7 := (uu7 81 (by omega)).trans m4_w3
            have m5_w7 := (uu7 82 (by omega)).trans m5_w3
            have m6_w7 := (uu7 83 (by omega)).trans m6_w3
            have m7_w7 := (uu7 84 (by omega)).trans m7_w3
            have m8_w7 := (uu7 85 (by omega)).trans m8_w3
            have m9_w7 := (uu7 86 (by omega)).trans m9_w3
            have m10_w7 := (uu7 87 (by omega)).trans m10_w3
            have fr_w7 : ∀ j, (j < 77 ∨ 88 ≤ j) → w7 j = w j := fun j hj => (uu7 j (by omega)).trans (fr_w3 j hj)
            refine r_iinc X eX6_size__63 rfl (nI (i + 1)) (inc_nI _) (L2 := [some (.ref (b + 77)), some (.int (nI nx)), some (.int (nI ny)), some (.int (nI ((10 * P.1) + P.2.1))), some (.int (nI (i + 1)))]) rfl ?_
            refine r_goto (tgt := 47) X eX6_size__66 (by decide) ?_
            exact ih3 (i + 1) (upd A i ((0 : Int32))) w7 (by omega) (fun j hj => by have hh := z_st (rs := A) (a := 0) (x := i) (q := j) (fun q hq => by rw [Nat.zero_add]; exact hz q hq) hj; rw [Nat.zero_add, Nat.zero_add] at hh; exact hh) (by rw [upd_ne (by omega)]; exact ha) m0_w7 n7_w7 m2_w7 m3_w7 m4_w7 m5_w7 m6_w7 m7_w7 m8_w7 m9_w7 m10_w7 fr_w7 (by omega)
      exact lp3 _ 0 st w (by omega) (fun j hj => absurd hj (by omega)) e3 m0 m1 m2 m3 m4 m5 m6 m7 m8 m9 m10 fr_w (Nat.lt_succ_self _)
    ·
      refine r_bipush X eX6_size__20 ((-2 : Int32)) (by decide) ?_
      exact ret _ _ _ _ _ eX6_size__22 (by rw [show fSize lw P n sg im kf x y = (-2, (lw, P, n, sg, im, kf)) from if_neg (by omega)]; exact ⟨rfl, ⟨_, _, _, _, _, _, _, _, _, _, _, _, _, _, _, _, ⟨m0, m1, m2, m3, m4, m5, m6, m7, m8, m9, m10⟩, hst, himg, hn8⟩, fr_w⟩)
set_option maxHeartbeats 4000000 in
set_option maxRecDepth 100000 in
theorem c_X6_grey (l : Launch) (G : Gs) (b N : Nat) (w : Wd) (hN : 88 ≤ N) (lw : Nat) (P : Pc) (n : Nat) (sg : Nat → Int32) (im : Nat → Nat × Pc) (kf : Nat → Int32) (hs : sysM G b w (lw, P, n, sg, im, kf)) (hkb : ∀ i, i < 2 → kf i = 0 ∨ kf i = 1) (x y v : Int32) : CI l yX6_grey cX6_grey 5 (some .int) 2 G b N w [.ref (b + 77), .int x, .int y, .int v] (fun r w2 => r = (fGrey lw P n sg im kf x y v).1 ∧ sysM G b w2 (fGrey lw P n sg im kf x y v).2 ∧ ∀ j, (j < 77 ∨ 88 ≤ j) → w2 j = w j) := by
  obtain ⟨wd, hg, sc, kc, bc, bo, ag, bk, st, ims, gr, mk, rs, se, tt, tc, ⟨m0, m1, m2, m3, m4, m5, m6, m7, m8, m9, m10⟩, hst, himg, hn8⟩ := id hs
  dsimp only at m0 m3 m4 hst himg hn8
  obtain ⟨s1, e1, e2, e3, hP, hlw⟩ := id hst
  obtain ⟨o1, o2, o3, o4⟩ := id hP
  refine CI_of (L0 := [some (.ref (b + 77)), some (.int x), some (.int y), some (.int v), none]) (by decide) rfl (by simp [Value.category]) rfl (Nat.le_of_ble_eq_true rfl) rfl (fun κ X ret => ?_)
  have fr_w : ∀ j, (j < 77 ∨ 88 ≤ j) → w j = w j := fun _ _ => rfl
  refine r_aload_n X eX6_grey_0 rfl ?_
  refine r_iload_n X eX6_grey_1 rfl ?_
  refine r_iload_n X eX6_grey_2 rfl ?_
  refine cp_X6_120 X eX6_grey_3 (c_X6_isDot _ G b N w hN n wd hg sc kc bc bo ag bk st ims kf sg gr mk rs se tt tc ⟨m0, m1, m2, m3, m4, m5, m6, m7, m8, m9, m10⟩ P hP e1 e2 x y) (by decide) (by omega) m0 rfl (Nat.le_of_ble_eq_true rfl) ?_
  refine r_ifne_b (tgt := 11) X eX6_grey_6 (by decide) (fun c_1 => ?_) (fun c_1 => ?_)
  ·
    refine r_iload_n X eX6_grey_11 rfl ?_
    refine r_iconst X eX6_grey_12 (nI 0) (by decide) ?_
    refine r_bipush X eX6_grey_13 (nI 9) (by decide) ?_
    refine cp_X6_41 X eX6_grey_15 (c_X6_in _ G b N w (v) (nI 0) (nI 9) (v.toInt) (0) (9) rfl (nI_toInt (by omega)) (nI_toInt (by omega))) (by decide) rfl (Nat.le_of_ble_eq_true rfl) ?_
    refine r_ifne_b (tgt := 24) X eX6_grey_18 (by decide) (fun c_2 => ?_) (fun c_2 => ?_)
    ·
      obtain ⟨nx, hnx, rfl, hi_nx⟩ := i2n (x := x) (by omega)
      obtain ⟨ny, hny, rfl, hi_ny⟩ := i2n (x := y) (by omega)
      refine r_aload_n X eX6_grey_24 rfl ?_
      refine gf_X6_7 X eX6_grey_25 (by omega) m0 ?_
      refine r_iconst X eX6_grey_28 (nI 0) (by decide) ?_
      refine r_iload_n X eX6_grey_29 rfl ?_
      refine r_iload_n X eX6_grey_30 rfl ?_
      refine cp_X6_52 X eX6_grey_31 (c_X6_at _ G b N w nx ny) (by decide) rfl (Nat.le_of_ble_eq_true rfl) ?_
      refine r_iadd X eX6_grey_34 (nI (8 * ny + nx)) (addN (by omega)) ?_
      refine r_iald X eX6_grey_35 (by omega) m1 (by omega) (by decide) ?_
      refine r_top (y := P.2.2.1 nx ny) (stI_at hst (by omega) (by omega)).1 ?_
      refine r_istore X eX6_grey_36 (Nat.le_of_ble_eq_true rfl) (L2 := [some (.ref (b + 77)), some (.int (nI nx)), some (.int (nI ny)), some (.int v), some (.int (P.2.2.1 nx ny))]) rfl ?_
      refine r_aload_n X eX6_grey_38 rfl ?_
      refine gf_X6_7 X eX6_grey_39 (by omega) m0 ?_
      refine r_iconst X eX6_grey_42 (nI 0) (by decide) ?_
      refine r_iload_n X eX6_grey_43 rfl ?_
      refine r_iload_n X eX6_grey_44 rfl ?_
      refine cp_X6_52 X eX6_grey_45 (c_X6_at _ G b N w nx ny) (by decide) rfl (Nat.le_of_ble_eq_true rfl) ?_
      refine r_iadd X eX6_grey_48 (nI (8 * ny + nx)) (addN (by omega)) ?_
      refine r_iload_n X eX6_grey_49 rfl ?_
      refine r_iast X eX6_grey_50 (by omega) m1 (by omega) (by decide) (fun w3 n3_w3 uu3 => ?_)
      have m0_w3 := (uu3 77 (by omega)).trans m0
      have m2_w3 := (uu3 79 (by omega)).trans m2
      have m3_w3 := (uu3 80 (by omega)).trans m3
      have m4_w3 := (uu3 81 (by omega)).trans m4
      have m5_w3 := (uu3 82 (by omega)).trans m5
      have m6_w3 := (uu3 83 (by omega)).trans m6
      have m7_w3 := (uu3 84 (by omega)).trans m7
      have m8_w3 := (uu3 85 (by omega)).trans m8
      have m9_w3 := (uu3 86 (by omega)).trans m9
      have m10_w3 := (uu3 87 (by omega)).trans m10
      have fr_w3 : ∀ j, (j < 77 ∨ 88 ≤ j) → w3 j = w j := fun j hj => (uu3 j (by omega)).trans (fr_w j hj)
      refine r_iload X eX6_grey_51 rfl ?_
      exact ret _ _ _ _ _ eX6_grey_53 (by rw [show fGrey lw P n sg im kf (nI nx) (nI ny) v = (P.2.2.1 nx ny, (lw, (P.1, P.2.1, setG P.2.2.1 nx ny v, P.2.2.2), n, sg, im, kf)) from by rw [fGrey, if_pos c_1, if_pos (by omega), tn_nI hnx, tn_nI hny]]; exact ⟨rfl, ⟨_, _, _, _, _, _, _, _, _, _, _, _, _, _, _, _, ⟨m0_w3, n3_w3, m2_w3, m3_w3, m4_w3, m5_w3, m6_w3, m7_w3, m8_w3, m9_w3, m10_w3⟩, stI_set hst (by omega) (by omega), himg, hn8⟩, fr_w3⟩)
    ·
      refine r_bipush X eX6_grey_21 ((-2 : Int32)) (by decide) ?_
      exact ret _ _ _ _ _ eX6_grey_23 (by rw [show fGrey lw P n sg im kf x y v = (-2, (lw, P, n, sg, im, kf)) from by rw [fGrey, if_pos c_1, if_neg (by omega)]]; exact ⟨rfl, ⟨_, _, _, _, _, _, _, _, _, _, _, _, _, _, _, _, ⟨m0, m1, m2, m3, m4, m5, m6, m7, m8, m9, m10⟩, hst, himg, hn8⟩, fr_w⟩)
  ·
    refine r_iconst X eX6_grey_9 ((-1 : Int32)) (by decide) ?_
    exact ret _ _ _ _ _ eX6_grey_10 (by rw [show fGrey lw P n sg im kf x y v = (-1, (lw, P, n, sg, im, kf)) from if_neg c_1]; exact ⟨rfl, ⟨_, _, _, _, _, _, _, _, _, _, _, _, _, _, _, _, ⟨m0, m1, m2, m3, m4, m5, m6, m7, m8, m9, m10⟩, hst, himg, hn8⟩, fr_w⟩)
set_option maxHeartbeats 4000000 in
set_option maxRecDepth 100000 in
theorem c_X6_mark (l : Launch) (G : Gs) (b N : Nat) (w : Wd) (hN : 88 ≤ N) (lw : Nat) (P : Pc) (n : Nat) (sg : Nat → Int32) (im : Nat → Nat × Pc) (kf : Nat → Int32) (hs : sysM G b w (lw, P, n, sg, im, kf)) (hkb : ∀ i, i < 2 → kf i = 0 ∨ kf i = 1) (x y v : Int32) : CI l yX6_mark cX6_mark 5 (some .int) 2 G b N w [.ref (b + 77), .int x, .int y, .int v] (fun r w2 => r = (fMark lw P n sg im kf x y v).1 ∧ sysM G b w2 (fMark lw P n sg im kf x y v).2 ∧ ∀ j, (j < 77 ∨ 88 ≤ j) → w2 j = w j) := by
  obtain ⟨wd, hg, sc, kc, bc, bo, ag, bk, st, ims, gr, mk, rs, se, tt, tc, ⟨m0, m1, m2, m3, m4, m5, m6, m7, m8, m9, m10⟩, hst, himg, hn8⟩ := id hs
  dsimp only at m0 m3 m4 hst himg hn8
  obtain ⟨s1, e1, e2, e3, hP, hlw⟩ := id hst
  obtain ⟨o1, o2, o3, o4⟩ := id hP
  refine CI_of (L0 := [some (.ref (b + 77)), some (.int x), some (.int y), some (.int v), none]) (by decide) rfl (by simp [Value.category]) rfl (Nat.le_of_ble_eq_true rfl) rfl (fun κ X ret => ?_)
  have fr_w : ∀ j, (j < 77 ∨ 88 ≤ j) → w j = w j := fun _ _ => rfl
  refine r_aload_n X eX6_mark_0 rfl ?_
  refine r_iload_n X eX6_mark_1 rfl ?_
  refine r_iload_n X eX6_mark_2 rfl ?_
  refine cp_X6_120 X eX6_mark_3 (c_X6_isDot _ G b N w hN n wd hg sc kc bc bo ag bk st ims kf sg gr mk rs se tt tc ⟨m0, m1, m2, m3, m4, m5, m6, m7, m8, m9, m10⟩ P hP e1 e2 x y) (by decide) (by omega) m0 rfl (Nat.le_of_ble_eq_true rfl) ?_
  refine r_ifne_b (tgt := 11) X eX6_mark_6 (by decide) (fun c_1 => ?_) (fun c_1 => ?_)
  ·
    refine r_iload_n X eX6_mark_11 rfl ?_
    refine r_iconst X eX6_mark_12 (nI 0) (by decide) ?_
    refine r_iconst X eX6_mark_13 (nI 2) (by decide) ?_
    refine cp_X6_41 X eX6_mark_14 (c_X6_in _ G b N w (v) (nI 0) (nI 2) (v.toInt) (0) (2) rfl (nI_toInt (by omega)) (nI_toInt (by omega))) (by decide) rfl (Nat.le_of_ble_eq_true rfl) ?_
    refine r_ifne_b (tgt := 23) X eX6_mark_17 (by decide) (fun c_2 => ?_) (fun c_2 => ?_)
    ·
      obtain ⟨nx, hnx, rfl, hi_nx⟩ := i2n (x := x) (by omega)
      obtain ⟨ny, hny, rfl, hi_ny⟩ := i2n (x := y) (by omega)
      refine r_aload_n X eX6_mark_23 rfl ?_
      refine gf_X6_7 X eX6_mark_24 (by omega) m0 ?_
      refine r_bipush X eX6_mark_27 (nI 64) (by decide) ?_
      refine r_iload_n X eX6_mark_29 rfl ?_
      refine r_iload_n X eX6_mark_30 rfl ?_
      refine cp_X6_52 X eX6_mark_31 (c_X6_at _ G b N w nx ny) (by decide) rfl (Nat.le_of_ble_eq_true rfl) ?_
      refine r_iadd X eX6_mark_34 (nI (64 + (8 * ny + nx))) (addN (by omega)) ?_
      refine r_iald X eX6_mark_35 (by omega) m1 (by omega) (by decide) ?_
      refine r_top (y := P.2.2.2 nx ny) (stI_at hst (by omega) (by omega)).2 ?_
      refine r_istore X eX6_mark_36 (Nat.le_of_ble_eq_true rfl) (L2 := [some (.ref (b + 77)), some (.int (nI nx)), some (.int (nI ny)), some (.int v), some (.int (P.2.2.2 nx ny))]) rfl ?_
      refine r_aload_n X eX6_mark_38 rfl ?_
      refine gf_X6_7 X eX6_mark_39 (by omega) m0 ?_
      refine r_bipush X eX6_mark_42 (nI 64) (by decide) ?_
      refine r_iload_n X eX6_mark_44 rfl ?_
      refine r_iload_n X eX6_mark_45 rfl ?_
      refine cp_X6_52 X eX6_mark_46 (c_X6_at _ G b N w nx ny) (by decide) rfl (Nat.le_of_ble_eq_true rfl) ?_
      refine r_iadd X eX6_mark_49 (nI (64 + (8 * ny + nx))) (addN (by omega)) ?_
      refine r_iload_n X eX6_mark_50 rfl ?_
      refine r_iast X eX6_mark_51 (by omega) m1 (by omega) (by decide) (fun w3 n3_w3 uu3 => ?_)
      have m0_w3 := (uu3 77 (by omega)).trans m0
      have m2_w3 := (uu3 79 (by omega)).trans m2
      have m3_w3 := (uu3 80 (by omega)).trans m3
      have m4_w3 := (uu3 81 (by omega)).trans m4
      have m5_w3 := (uu3 82 (by omega)).trans m5
      have m6_w3 := (uu3 83 (by omega)).trans m6
      have m7_w3 := (uu3 84 (by omega)).trans m7
      have m8_w3 := (uu3 85 (by omega)).trans m8
      have m9_w3 := (uu3 86 (by omega)).trans m9
      have m10_w3 := (uu3 87 (by omega)).trans m10
      have fr_w3 : ∀ j, (j < 77 ∨ 88 ≤ j) → w3 j = w j := fun j hj => (uu3 j (by omega)).trans (fr_w j hj)
      refine r_iload X eX6_mark_52 rfl ?_
      exact ret _ _ _ _ _ eX6_mark_54 (by rw [show fMark lw P n sg im kf (nI nx) (nI ny) v = (P.2.2.2 nx ny, (lw, (P.1, P.2.1, P.2.2.1, setG P.2.2.2 nx ny v), n, sg, im, kf)) from by rw [fMark, if_pos c_1, if_pos (by omega), tn_nI hnx, tn_nI hny]]; exact ⟨rfl, ⟨_, _, _, _, _, _, _, _, _, _, _, _, _, _, _, _, ⟨m0_w3, n3_w3, m2_w3, m3_w3, m4_w3, m5_w3, m6_w3, m7_w3, m8_w3, m9_w3, m10_w3⟩, stI_setM hst (by omega) (by omega), himg, hn8⟩, fr_w3⟩)
    ·
      refine r_bipush X eX6_mark_20 ((-2 : Int32)) (by decide) ?_
      exact ret _ _ _ _ _ eX6_mark_22 (by rw [show fMark lw P n sg im kf x y v = (-2, (lw, P, n, sg, im, kf)) from by rw [fMark, if_pos c_1, if_neg (by omega)]]; exact ⟨rfl, ⟨_, _, _, _, _, _, _, _, _, _, _, _, _, _, _, _, ⟨m0, m1, m2, m3, m4, m5, m6, m7, m8, m9, m10⟩, hst, himg, hn8⟩, fr_w⟩)
  ·
    refine r_iconst X eX6_mark_9 ((-1 : Int32)) (by decide) ?_
    exact ret _ _ _ _ _ eX6_mark_10 (by rw [show fMark lw P n sg im kf x y v = (-1, (lw, P, n, sg, im, kf)) from if_neg c_1]; exact ⟨rfl, ⟨_, _, _, _, _, _, _, _, _, _, _, _, _, _, _, _, ⟨m0, m1, m2, m3, m4, m5, m6, m7, m8, m9, m10⟩, hst, himg, hn8⟩, fr_w⟩)
set_option maxHeartbeats 4000000 in
set_option maxRecDepth 100000 in
theorem c_X6_rule (l : Launch) (G : Gs) (b N : Nat) (w : Wd) (hN : 88 ≤ N) (lw : Nat) (P : Pc) (n : Nat) (sg : Nat → Int32) (im : Nat → Nat × Pc) (kf : Nat → Int32) (hs : sysM G b w (lw, P, n, sg, im, kf)) (hkb : ∀ i, i < 2 → kf i = 0 ∨ kf i = 1) (v : Int32) : CI l yX6_rule cX6_rule 3 (some .int) 1 G b N w [.ref (b + 77), .int v] (fun r w2 => r = (fRule lw P n sg im kf v).1 ∧ sysM G b w2 (fRule lw P n sg im kf v).2 ∧ ∀ j, (j < 77 ∨ 88 ≤ j) → w2 j = w j) := by
  obtain ⟨wd, hg, sc, kc, bc, bo, ag, bk, st, ims, gr, mk, rs, se, tt, tc, ⟨m0, m1, m2, m3, m4, m5, m6, m7, m8, m9, m10⟩, hst, himg, hn8⟩ := id hs
  dsimp only at m0 m3 m4 hst himg hn8
  obtain ⟨s1, e1, e2, e3, hP, hlw⟩ := id hst
  obtain ⟨o1, o2, o3, o4⟩ := id hP
  refine CI_of (L0 := [some (.ref (b + 77)), some (.int v), none]) (by decide) rfl (by simp [Value.category]) rfl (Nat.le_of_ble_eq_true rfl) rfl (fun κ X ret => ?_)
  have fr_w : ∀ j, (j < 77 ∨ 88 ≤ j) → w j = w j := fun _ _ => rfl
  refine r_iload_n X eX6_rule_0 rfl ?_
  refine r_iconst X eX6_rule_1 (nI 0) (by decide) ?_
  refine r_iconst X eX6_rule_2 (nI 1) (by decide) ?_
  refine cp_X6_41 X eX6_rule_3 (c_X6_in _ G b N w (v) (nI 0) (nI 1) (v.toInt) (0) (1) rfl (nI_toInt (by omega)) (nI_toInt (by omega))) (by decide) rfl (Nat.le_of_ble_eq_true rfl) ?_
  refine r_ifne_b (tgt := 12) X eX6_rule_6 (by decide) (fun c_1 => ?_) (fun c_1 => ?_)
  ·
    obtain ⟨nv, hnv, rfl, hi_nv⟩ := i2n (x := v) (by omega)
    refine r_aload_n X eX6_rule_12 rfl ?_
    refine gf_X6_7 X eX6_rule_13 (by omega) m0 ?_
    refine r_sipush X eX6_rule_16 (nI 130) (by decide) ?_
    refine r_iald X eX6_rule_19 (by omega) m1 (by omega) (by decide) ?_
    refine r_top (y := nI lw) e3 ?_
    refine r_istore_n X eX6_rule_20 (Nat.le_of_ble_eq_true rfl) (L2 := [some (.ref (b + 77)), some (.int (nI nv)), some (.int (nI lw))]) rfl ?_
    refine r_aload_n X eX6_rule_21 rfl ?_
    refine gf_X6_7 X eX6_rule_22 (by omega) m0 ?_
    refine r_sipush X eX6_rule_25 (nI 130) (by decide) ?_
    refine r_iload_n X eX6_rule_28 rfl ?_
    refine r_iast X eX6_rule_29 (by omega) m1 (by omega) (by decide) (fun w2 n2_w2 uu2 => ?_)
    have m0_w2 := (uu2 77 (by omega)).trans m0
    have m2_w2 := (uu2 79 (by omega)).trans m2
    have m3_w2 := (uu2 80 (by omega)).trans m3
    have m4_w2 := (uu2 81 (by omega)).trans m4
    have m5_w2 := (uu2 82 (by omega)).trans m5
    have m6_w2 := (uu2 83 (by omega)).trans m6
    have m7_w2 := (uu2 84 (by omega)).trans m7
    have m8_w2 := (uu2 85 (by omega)).trans m8
    have m9_w2 := (uu2 86 (by omega)).trans m9
    have m10_w2 := (uu2 87 (by omega)).trans m10
    have fr_w2 : ∀ j, (j < 77 ∨ 88 ≤ j) → w2 j = w j := fun j hj => (uu2 j (by omega)).trans (fr_w j hj)
    refine r_iload_n X eX6_rule_30 rfl ?_
    exact ret _ _ _ _ _ eX6_rule_31 (by rw [show fRule lw P n sg im kf (nI nv) = (nI lw, (nv, P, n, sg, im, kf)) from by rw [fRule, if_pos (by omega), tn_nI hnv]]; exact ⟨rfl, ⟨_, _, _, _, _, _, _, _, _, _, _, _, _, _, _, _, ⟨m0_w2, n2_w2, m2_w2, m3_w2, m4_w2, m5_w2, m6_w2, m7_w2, m8_w2, m9_w2, m10_w2⟩, stI_law hst (by omega), himg, hn8⟩, fr_w2⟩)
  ·
    refine r_bipush X eX6_rule_9 ((-2 : Int32)) (by decide) ?_
    exact ret _ _ _ _ _ eX6_rule_11 (by rw [show fRule lw P n sg im kf v = (-2, (lw, P, n, sg, im, kf)) from if_neg (by omega)]; exact ⟨rfl, ⟨_, _, _, _, _, _, _, _, _, _, _, _, _, _, _, _, ⟨m0, m1, m2, m3, m4, m5, m6, m7, m8, m9, m10⟩, hst, himg, hn8⟩, fr_w⟩)
set_option maxHeartbeats 4000000 in
set_option maxRecDepth 100000 in
theorem c_X6_dot (l : Launch) (G : Gs) (b N : Nat) (w : Wd) (hN : 88 ≤ N) (lw : Nat) (P : Pc) (n : Nat) (sg : Nat → Int32) (im : Nat → Nat × Pc) (kf : Nat → Int32) (hs : sysM G b w (lw, P, n, sg, im, kf)) (hkb : ∀ i, i < 2 → kf i = 0 ∨ kf i = 1) (x y what : Int32) : CI l yX6_dot cX6_dot 4 (some .int) 6 G b N w [.ref (b + 77), .int x, .int y, .int what] (fun r w2 => r = aDot P x y what ∧ sysM G b w2 (lw, P, n, sg, im, kf) ∧ ∀ j, (j < 77 ∨ 88 ≤ j) → w2 j = w j) := by
  obtain ⟨wd, hg, sc, kc, bc, bo, ag, bk, st, ims, gr, mk, rs, se, tt, tc, ⟨m0, m1, m2, m3, m4, m5, m6, m7, m8, m9, m10⟩, hst, himg, hn8⟩ := id hs
  dsimp only at m0 m3 m4 hst himg hn8
  obtain ⟨s1, e1, e2, e3, hP, hlw⟩ := id hst
  obtain ⟨o1, o2, o3, o4⟩ := id hP
  refine CI_of (L0 := [some (.ref (b + 77)), some (.int x), some (.int y), some (.int what)]) (by decide) rfl (by simp [Value.category]) rfl (Nat.le_of_ble_eq_true rfl) rfl (fun κ X ret => ?_)
  have fr_w : ∀ j, (j < 77 ∨ 88 ≤ j) → w j = w j := fun _ _ => rfl
  refine r_aload_n X eX6_dot_0 rfl ?_
  refine r_iload_n X eX6_dot_1 rfl ?_
  refine r_iload_n X eX6_dot_2 rfl ?_
  refine cp_X6_120 X eX6_dot_3 (c_X6_isDot _ G b N w hN n wd hg sc kc bc bo ag bk st ims kf sg gr mk rs se tt tc ⟨m0, m1, m2, m3, m4, m5, m6, m7, m8, m9, m10⟩ P hP e1 e2 x y) (by decide) (by omega) m0 rfl (Nat.le_of_ble_eq_true rfl) ?_
  refine r_ifne_b (tgt := 11) X eX6_dot_6 (by decide) (fun c_1 => ?_) (fun c_1 => ?_)
  ·
    obtain ⟨nx, hnx, rfl, hi_nx⟩ := i2n (x := x) (by omega)
    obtain ⟨ny, hny, rfl, hi_ny⟩ := i2n (x := y) (by omega)
    refine r_aload_n X eX6_dot_11 rfl ?_
    refine cv_X6_124 X eX6_dot_12 (c_X6_take _ G b N w hN n wd hg sc kc bc bo ag bk st ims kf sg gr mk rs se tt tc ⟨m0, m1, m2, m3, m4, m5, m6, m7, m8, m9, m10⟩ P.1 P.2.1 e1 e2) (by decide) (by omega) m0 rfl (Nat.le_of_ble_eq_true rfl) (fun w2 hp2 => ?_)
    obtain ⟨gr2, mk2, ⟨y0K, y1K, y2K, y3K, y4K, y5K, y6K, y7K, y8K, y9K, y10K⟩, hgk, gK⟩ := hp2
    have m3_w2 : w2 77 = .inr (6, [.ref (b + 78), .ref (b + 79), .ref (b + 80), .ref (b + 81), .int (nI n), .ref (b + 82), .ref (b + 83), .int (nI P.1), .int (nI P.2.1), .ref (b + 84), .ref (b + 85), .int sc, .int kc, .int bc, .int bo, .int ag, .int bk, .ref (b + 86), .ref (b + 87)]) := y0K
    have m4_w2 : w2 78 = aI G 131 st := y1K
    have m5_w2 : w2 79 = aI G 262 ims := y2K
    have m6_w2 : w2 80 = aZ G 2 kf := y3K
    have m7_w2 : w2 81 = aI G 80 sg := y4K
    have m8_w2 : w2 82 = aI G 64 gr2 := y5K
    have m9_w2 : w2 83 = aI G 64 mk2 := y6K
    have m10_w2 : w2 84 = aI G 64 rs := y7K
    have m11_w2 : w2 85 = aI G 8 se := y8K
    have m12_w2 : w2 86 = aI G 6272 tt := y9K
    have m13_w2 : w2 87 = aI G 49 tc := y10K
    have fr_w2 : ∀ j, (j < 77 ∨ 88 ≤ j) → w2 j = w j := fun j hj => (gK j (by omega)).trans (fr_w j hj)
    have hag := stI_ag hst hgk
    refine r_iload_n X eX6_dot_15 rfl ?_
    by_cases s_14 : what.toInt = 0
    ·
      refine r_tabIn (tgt := 48) X eX6_dot_16 0 s_14 (by decide) (by decide) rfl (by decide) ?_
      refine r_aload_n X eX6_dot_48 rfl ?_
      refine gf_X6_23 X eX6_dot_49 (by omega) m3_w2 ?_
      refine r_iload_n X eX6_dot_52 rfl ?_
      refine r_iload_n X eX6_dot_53 rfl ?_
      refine cp_X6_52 X eX6_dot_54 (c_X6_at _ G b N w2 nx ny) (by decide) rfl (Nat.le_of_ble_eq_true rfl) ?_
      refine r_iald X eX6_dot_57 (by omega) m8_w2 (by omega) (by decide) ?_
      refine r_top (y := P.2.2.1 nx ny) ((hgk _ (by omega)).1.trans (stI_at hst (by omega) (by omega)).1) ?_
      exact ret _ _ _ _ _ eX6_dot_58 (⟨by rw [aDot, if_pos c_1, if_pos (by omega), tn_nI hnx, tn_nI hny], ⟨_, _, _, _, _, _, _, _, _, _, _, _, _, _, _, _, ⟨m3_w2, m4_w2, m5_w2, m6_w2, m7_w2, m8_w2, m9_w2, m10_w2, m11_w2, m12_w2, m13_w2⟩, hst, himg, hn8⟩, fr_w2⟩)
    by_cases s_15 : what.toInt = 1
    ·
      refine r_tabIn (tgt := 59) X eX6_dot_16 1 s_15 (by decide) (by decide) rfl (by decide) ?_
      refine r_aload_n X eX6_dot_59 rfl ?_
      refine gf_X6_26 X eX6_dot_60 (by omega) m3_w2 ?_
      refine r_iload_n X eX6_dot_63 rfl ?_
      refine r_iload_n X eX6_dot_64 rfl ?_
      refine cp_X6_52 X eX6_dot_65 (c_X6_at _ G b N w2 nx ny) (by decide) rfl (Nat.le_of_ble_eq_true rfl) ?_
      refine r_iald X eX6_dot_68 (by omega) m9_w2 (by omega) (by decide) ?_
      refine r_top (y := P.2.2.2 nx ny) ((hgk _ (by omega)).2.trans (stI_at hst (by omega) (by omega)).2) ?_
      exact ret _ _ _ _ _ eX6_dot_69 (⟨by rw [aDot, if_pos c_1, if_neg (by omega), if_pos (by omega), tn_nI hnx, tn_nI hny], ⟨_, _, _, _, _, _, _, _, _, _, _, _, _, _, _, _, ⟨m3_w2, m4_w2, m5_w2, m6_w2, m7_w2, m8_w2, m9_w2, m10_w2, m11_w2, m12_w2, m13_w2⟩, hst, himg, hn8⟩, fr_w2⟩)
    by_cases s_16 : what.toInt = 2
    ·
      refine r_tabIn (tgt := 70) X eX6_dot_16 2 s_16 (by decide) (by decide) rfl (by decide) ?_
      refine r_aload_n X eX6_dot_70 rfl ?_
      refine r_iload_n X eX6_dot_71 rfl ?_
      refine r_iload_n X eX6_dot_72 rfl ?_
      refine cp_X6_78 X eX6_dot_73 (c_X6_edge _ G b N w2 hN n P.1 P.2.1 sc kc bc bo ag bk st ims kf sg gr2 mk2 rs se tt tc ⟨m3_w2, m4_w2, m5_w2, m6_w2, m7_w2, m8_w2, m9_w2, m10_w2, m11_w2, m12_w2, m13_w2⟩ nx ny (by omega) (by omega) (by omega) (by omega)) (by decide) (by omega) m3_w2 rfl (Nat.le_of_ble_eq_true rfl) ?_
      refine r_top (y := edS P nx ny) (wt_agG hag (by omega) (by omega)).1 ?_
      exact ret _ _ _ _ _ eX6_dot_76 (⟨by rw [aDot, if_pos c_1, if_neg (by omega), if_neg (by omega), if_pos (by omega), tn_nI hnx, tn_nI hny], ⟨_, _, _, _, _, _, _, _, _, _, _, _, _, _, _, _, ⟨m3_w2, m4_w2, m5_w2, m6_w2, m7_w2, m8_w2, m9_w2, m10_w2, m11_w2, m12_w2, m13_w2⟩, hst, himg, hn8⟩, fr_w2⟩)
    by_cases s_17 : what.toInt = 3
    ·
      refine r_tabIn (tgt := 77) X eX6_dot_16 3 s_17 (by decide) (by decide) rfl (by decide) ?_
      refine r_aload_n X eX6_dot_77 rfl ?_
      refine r_iload_n X eX6_dot_78 rfl ?_
      refine r_iload_n X eX6_dot_79 rfl ?_
      refine cp_X6_84 X eX6_dot_80 (c_X6_weight _ G b N w2 hN n P.1 P.2.1 sc kc bc bo ag bk st ims kf sg gr2 mk2 rs se tt tc ⟨m3_w2, m4_w2, m5_w2, m6_w2, m7_w2, m8_w2, m9_w2, m10_w2, m11_w2, m12_w2, m13_w2⟩ nx ny (by omega) (by omega) (by omega) (by omega)) (by decide) (by omega) m3_w2 rfl (Nat.le_of_ble_eq_true rfl) ?_
      refine r_top (y := wgS P nx ny) (wt_agG hag (by omega) (by omega)).2 ?_
      refine r_sipush X eX6_dot_83 ((1000 : Int32)) (by decide) ?_
      refine r_iadd X eX6_dot_86 ((wgS P nx ny) + ((1000 : Int32))) rfl ?_
      exact ret _ _ _ _ _ eX6_dot_87 (⟨by rw [aDot, if_pos c_1, if_neg (by omega), if_neg (by omega), if_neg (by omega), if_pos (by omega), tn_nI hnx, tn_nI hny], ⟨_, _, _, _, _, _, _, _, _, _, _, _, _, _, _, _, ⟨m3_w2, m4_w2, m5_w2, m6_w2, m7_w2, m8_w2, m9_w2, m10_w2, m11_w2, m12_w2, m13_w2⟩, hst, himg, hn8⟩, fr_w2⟩)
    refine r_tabOut (tgt := 88) X eX6_dot_16 (by omega) (by decide) ?_
    refine r_bipush X eX6_dot_88 ((-2 : Int32)) (by decide) ?_
    exact ret _ _ _ _ _ eX6_dot_90 (⟨by rw [aDot, if_pos c_1, if_neg (by omega), if_neg (by omega), if_neg (by omega), if_neg (by omega)], ⟨_, _, _, _, _, _, _, _, _, _, _, _, _, _, _, _, ⟨m3_w2, m4_w2, m5_w2, m6_w2, m7_w2, m8_w2, m9_w2, m10_w2, m11_w2, m12_w2, m13_w2⟩, hst, himg, hn8⟩, fr_w2⟩)
  ·
    refine r_iconst X eX6_dot_9 ((-1 : Int32)) (by decide) ?_
    exact ret _ _ _ _ _ eX6_dot_10 (⟨(if_neg c_1).symm, ⟨_, _, _, _, _, _, _, _, _, _, _, _, _, _, _, _, ⟨m0, m1, m2, m3, m4, m5, m6, m7, m8, m9, m10⟩, hst, himg, hn8⟩, fr_w⟩)
set_option maxHeartbeats 4000000 in
set_option maxRecDepth 100000 in
theorem c_X6_say (l : Launch) (G : Gs) (b N : Nat) (w : Wd) (hN : 88 ≤ N) (lw : Nat) (P : Pc) (n : Nat) (sg : Nat → Int32) (im : Nat → Nat × Pc) (kf : Nat → Int32) (hs : sysM G b w (lw, P, n, sg, im, kf)) (hkb : ∀ i, i < 2 → kf i = 0 ∨ kf i = 1) (x : Int32) : CI l yX6_say cX6_say 2 (some .int) 1 G b N w [.ref (b + 77), .int x] (fun r w2 => r = (fSay lw P n sg im kf x).1 ∧ sysM G b w2 (fSay lw P n sg im kf x).2 ∧ ∀ j, (j < 77 ∨ 88 ≤ j) → w2 j = w j) := by
  obtain ⟨wd, hg, sc, kc, bc, bo, ag, bk, st, ims, gr, mk, rs, se, tt, tc, ⟨m0, m1, m2, m3, m4, m5, m6, m7, m8, m9, m10⟩, hst, himg, hn8⟩ := id hs
  dsimp only at m0 m3 m4 hst himg hn8
  obtain ⟨s1, e1, e2, e3, hP, hlw⟩ := id hst
  obtain ⟨o1, o2, o3, o4⟩ := id hP
  refine CI_of (L0 := [some (.ref (b + 77)), some (.int x)]) (by decide) rfl (by simp [Value.category]) rfl (Nat.le_of_ble_eq_true rfl) rfl (fun κ X ret => ?_)
  have fr_w : ∀ j, (j < 77 ∨ 88 ≤ j) → w j = w j := fun _ _ => rfl
  refine r_iload_n X eX6_say_0 rfl ?_
  refine r_bipush X eX6_say_1 (nI 33) (by decide) ?_
  refine r_bipush X eX6_say_3 (nI 126) (by decide) ?_
  refine cp_X6_41 X eX6_say_5 (c_X6_in _ G b N w (x) (nI 33) (nI 126) (x.toInt) (33) (126) rfl (nI_toInt (by omega)) (nI_toInt (by omega))) (by decide) rfl (Nat.le_of_ble_eq_true rfl) ?_
  refine r_ifne_b (tgt := 14) X eX6_say_8 (by decide) (fun c_1 => ?_) (fun c_1 => ?_)
  ·
    refine r_aload_n X eX6_say_14 rfl ?_
    refine gf_X6_127 X eX6_say_15 (by omega) m0 ?_
    refine r_bipush X eX6_say_18 (nI 80) (by decide) ?_
    refine r_icmp_ne (tgt := 26) X eX6_say_20 (by decide) (nI_toInt (by omega)) (nI_toInt (by omega)) (fun c_2 => ?_) (fun c_2 => ?_)
    ·
      refine r_aload_n X eX6_say_26 rfl ?_
      refine gf_X6_20 X eX6_say_27 (by omega) m0 ?_
      refine r_aload_n X eX6_say_30 rfl ?_
      refine gf_X6_127 X eX6_say_31 (by omega) m0 ?_
      refine r_iload_n X eX6_say_34 rfl ?_
      refine r_iast X eX6_say_35 (by omega) m4 (by omega) (by decide) (fun w3 n3_w3 uu3 => ?_)
      have m0_w3 := (uu3 77 (by omega)).trans m0
      have m1_w3 := (uu3 78 (by omega)).trans m1
      have m2_w3 := (uu3 79 (by omega)).trans m2
      have m3_w3 := (uu3 80 (by omega)).trans m3
      have m5_w3 := (uu3 82 (by omega)).trans m5
      have m6_w3 := (uu3 83 (by omega)).trans m6
      have m7_w3 := (uu3 84 (by omega)).trans m7
      have m8_w3 := (uu3 85 (by omega)).trans m8
      have m9_w3 := (uu3 86 (by omega)).trans m9
      have m10_w3 := (uu3 87 (by omega)).trans m10
      have fr_w3 : ∀ j, (j < 77 ∨ 88 ≤ j) → w3 j = w j := fun j hj => (uu3 j (by omega)).trans (fr_w j hj)
      refine r_aload_n X eX6_say_36 rfl ?_
      refine r_dup X eX6_say_37 rfl ?_
      refine gf_X6_127 X eX6_say_38 (by omega) m0_w3 ?_
      refine r_iconst X eX6_say_41 (nI 1) (by decide) ?_
      refine r_iadd X eX6_say_42 (nI (n + 1)) (addN (by omega)) ?_
      refine pf_X6_127 X eX6_say_43 (by omega) m0_w3 (fun w4 n4_w4 uu4 => ?_)
      have m1_w4 := (uu4 78 (by omega)).trans m1_w3
      have m2_w4 := (uu4 79 (by omega)).trans m2_w3
      have m3_w4 := (uu4 80 (by omega)).trans m3_w3
      have n3_w4 := (uu4 81 (by omega)).trans n3_w3
      have m5_w4 := (uu4 82 (by omega)).trans m5_w3
      have m6_w4 := (uu4 83 (by omega)).trans m6_w3
      have m7_w4 := (uu4 84 (by omega)).trans m7_w3
      have m8_w4 := (uu4 85 (by omega)).trans m8_w3
      have m9_w4 := (uu4 86 (by omega)).trans m9_w3
      have m10_w4 := (uu4 87 (by omega)).trans m10_w3
      have fr_w4 : ∀ j, (j < 77 ∨ 88 ≤ j) → w4 j = w j := fun j hj => (uu4 j (by omega)).trans (fr_w3 j hj)
      refine r_aload_n X eX6_say_46 rfl ?_
      refine gf_X6_127 X eX6_say_47 (by omega) n4_w4 ?_
      exact ret _ _ _ _ _ eX6_say_50 (by rw [show fSay lw P n sg im kf x = (nI (n + 1), (lw, P, n + 1, upd sg n x, im, kf)) from by rw [fSay, if_pos (by omega), if_pos (by omega)]]; exact ⟨rfl, ⟨_, _, _, _, _, _, _, _, _, _, _, _, _, _, _, _, ⟨n4_w4, m1_w4, m2_w4, m3_w4, n3_w4, m5_w4, m6_w4, m7_w4, m8_w4, m9_w4, m10_w4⟩, hst, himg, (by show n + 1 ≤ 80; omega)⟩, fr_w4⟩)
    ·
      refine r_bipush X eX6_say_23 ((-4 : Int32)) (by decide) ?_
      exact ret _ _ _ _ _ eX6_say_25 (by rw [show fSay lw P n sg im kf x = (-4, (lw, P, n, sg, im, kf)) from by rw [fSay, if_pos (by omega), if_neg (by omega)]]; exact ⟨rfl, ⟨_, _, _, _, _, _, _, _, _, _, _, _, _, _, _, _, ⟨m0, m1, m2, m3, m4, m5, m6, m7, m8, m9, m10⟩, hst, himg, hn8⟩, fr_w⟩)
  ·
    refine r_bipush X eX6_say_11 ((-2 : Int32)) (by decide) ?_
    exact ret _ _ _ _ _ eX6_say_13 (by rw [show fSay lw P n sg im kf x = (-2, (lw, P, n, sg, im, kf)) from if_neg (by omega)]; exact ⟨rfl, ⟨_, _, _, _, _, _, _, _, _, _, _, _, _, _, _, _, ⟨m0, m1, m2, m3, m4, m5, m6, m7, m8, m9, m10⟩, hst, himg, hn8⟩, fr_w⟩)
set_option maxHeartbeats 4000000 in
set_option maxRecDepth 100000 in
theorem c_X6_wipe (l : Launch) (G : Gs) (b N : Nat) (w : Wd) (hN : 88 ≤ N) (lw : Nat) (P : Pc) (n : Nat) (sg : Nat → Int32) (im : Nat → Nat × Pc) (kf : Nat → Int32) (hs : sysM G b w (lw, P, n, sg, im, kf)) (hkb : ∀ i, i < 2 → kf i = 0 ∨ kf i = 1) : CI l yX6_wipe cX6_wipe 2 (some .int) 0 G b N w [.ref (b + 77)] (fun r w2 => r = (fWipe lw P n sg im kf).1 ∧ sysM G b w2 (fWipe lw P n sg im kf).2 ∧ ∀ j, (j < 77 ∨ 88 ≤ j) → w2 j = w j) := by
  obtain ⟨wd, hg, sc, kc, bc, bo, ag, bk, st, ims, gr, mk, rs, se, tt, tc, ⟨m0, m1, m2, m3, m4, m5, m6, m7, m8, m9, m10⟩, hst, himg, hn8⟩ := id hs
  dsimp only at m0 m3 m4 hst himg hn8
  obtain ⟨s1, e1, e2, e3, hP, hlw⟩ := id hst
  obtain ⟨o1, o2, o3, o4⟩ := id hP
  refine CI_of (L0 := [some (.ref (b + 77)), none]) (by decide) rfl (by simp [Value.category]) rfl (Nat.le_of_ble_eq_true rfl) rfl (fun κ X ret => ?_)
  have fr_w : ∀ j, (j < 77 ∨ 88 ≤ j) → w j = w j := fun _ _ => rfl
  refine r_aload_n X eX6_wipe_0 rfl ?_
  refine gf_X6_127 X eX6_wipe_1 (by omega) m0 ?_
  refine r_istore_n X eX6_wipe_4 (Nat.le_of_ble_eq_true rfl) (L2 := [some (.ref (b + 77)), some (.int (nI n))]) rfl ?_
  refine r_aload_n X eX6_wipe_5 rfl ?_
  refine r_iconst X eX6_wipe_6 (nI 0) (by decide) ?_
  refine pf_X6_127 X eX6_wipe_7 (by omega) m0 (fun w1 n1_w1 uu1 => ?_)
  have m1_w1 := (uu1 78 (by omega)).trans m1
  have m2_w1 := (uu1 79 (by omega)).trans m2
  have m3_w1 := (uu1 80 (by omega)).trans m3
  have m4_w1 := (uu1 81 (by omega)).trans m4
  have m5_w1 := (uu1 82 (by omega)).trans m5
  have m6_w1 := (uu1 83 (by omega)).trans m6
  have m7_w1 := (uu1 84 (by omega)).trans m7
  have m8_w1 := (uu1 85 (by omega)).trans m8
  have m9_w1 := (uu1 86 (by omega)).trans m9
  have m10_w1 := (uu1 87 (by omega)).trans m10
  have fr_w1 : ∀ j, (j < 77 ∨ 88 ≤ j) → w1 j = w j := fun j hj => (uu1 j (by omega)).trans (fr_w j hj)
  refine r_iload_n X eX6_wipe_10 rfl ?_
  exact ret _ _ _ _ _ eX6_wipe_11 (⟨rfl, ⟨_, _, _, _, _, _, _, _, _, _, _, _, _, _, _, _, ⟨n1_w1, m1_w1, m2_w1, m3_w1, m4_w1, m5_w1, m6_w1, m7_w1, m8_w1, m9_w1, m10_w1⟩, hst, himg, Nat.zero_le _⟩, fr_w1⟩)
