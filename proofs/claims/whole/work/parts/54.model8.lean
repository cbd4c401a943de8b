set_option maxHeartbeats 4000000 in
set_option maxRecDepth 100000 in
theorem c_X6_lay (l : Launch) (G : Gs) (b N : Nat) (w : Wd) (hN : 88 ≤ N) (lw : Nat) (P : Pc) (n : Nat) (sg : Nat → Int32) (im : Nat → Nat × Pc) (kf : Nat → Int32) (hs : sysM G b w (lw, P, n, sg, im, kf)) (hkb : ∀ i, i < 2 → kf i = 0 ∨ kf i = 1) (how : Int32) : CI l yX6_lay cX6_lay 6 (some .int) 3 G b N w [.ref (b + 77), .int how] (fun r w2 => r = (fLay lw P n sg im kf how).1 ∧ sysM G b w2 (fLay lw P n sg im kf how).2 ∧ ∀ j, (j < 77 ∨ 88 ≤ j) → w2 j = w j) := by
  obtain ⟨wd, hg, sc, kc, bc, bo, ag, bk, st, ims, gr, mk, rs, se, tt, tc, ⟨m0, m1, m2, m3, m4, m5, m6, m7, m8, m9, m10⟩, hst, himg, hn8⟩ := id hs
  dsimp only at m0 m3 m4 hst himg hn8
  obtain ⟨s1, e1, e2, e3, hP, hlw⟩ := id hst
  obtain ⟨o1, o2, o3, o4⟩ := id hP
  refine CI_of (L0 := [some (.ref (b + 77)), some (.int how), none, none, none, none]) (by decide) rfl (by simp [Value.category]) rfl (Nat.le_of_ble_eq_true rfl) rfl (fun κ X ret => ?_)
  have fr_w : ∀ j, (j < 77 ∨ 88 ≤ j) → w j = w j := fun _ _ => rfl
  refine r_iload_n X eX6_lay_0 rfl ?_
  refine r_iconst X eX6_lay_1 (nI 0) (by decide) ?_
  refine r_iconst X eX6_lay_2 (nI 1) (by decide) ?_
  refine cp_X6_41 X eX6_lay_3 (c_X6_in _ G b N w (how) (nI 0) (nI 1) (how.toInt) (0) (1) rfl (nI_toInt (by omega)) (nI_toInt (by omega))) (by decide) rfl (Nat.le_of_ble_eq_true rfl) ?_
  refine r_ifne_b (tgt := 12) X eX6_lay_6 (by decide) (fun c_1 => ?_) (fun c_1 => ?_)
  ·
    obtain ⟨nh, hnh, rfl, hi_nh⟩ := i2n (x := how) (by omega)
    refine r_aload_n X eX6_lay_12 rfl ?_
    refine r_iload_n X eX6_lay_13 rfl ?_
    refine cp_X6_141 X eX6_lay_14 (c_X6_faultAs _ G b N w hN n wd hg sc kc bc bo ag bk st ims kf sg gr mk rs se tt tc ⟨m0, m1, m2, m3, m4, m5, m6, m7, m8, m9, m10⟩ P hP e1 e2 nh (by omega) hn8) (by decide) (by omega) m0 rfl (Nat.le_of_ble_eq_true rfl) ?_
    refine r_if_lt (tgt := 23) X eX6_lay_17 (by decide) rfl (fun c_2 => ?_) (fun c_2 => ?_)
    ·
      obtain ⟨hff, hnd⟩ := ff_neg hn8 c_2
      refine r_iconst X eX6_lay_23 ((0 : Int32)) (by decide) ?_
      rcases (show nh = 0 ∨ nh = 1 by omega) with rfl | rfl
      ·
        refine r_istore_n X eX6_lay_24 (Nat.le_of_ble_eq_true rfl) (L2 := [some (.ref (b + 77)), some (.int (nI 0)), some (.int ((0 : Int32))), none, none, none]) rfl ?_
        refine r_iconst X eX6_lay_25 (nI 0) (by decide) ?_
        refine r_istore_n X eX6_lay_26 (Nat.le_of_ble_eq_true rfl) (L2 := [some (.ref (b + 77)), some (.int (nI 0)), some (.int ((0 : Int32))), some (.int (nI 0)), none, none]) rfl ?_
        have lp3 : ∀ (fu : Nat) (k : Nat) (c : Int32) (A : Nat → Int32) (w3 : Wd), (k ≤ n) → (c = sm (FLy 0 P sg) k) → (LyI 0 P (fun k => vS 0 (sg k)) st k A) → (w3 77 = .inr (6, [.ref (b + 78), .ref (b + 79), .ref (b + 80), .ref (b + 81), .int (nI n), .ref (b + 82), .ref (b + 83), .int (nI wd), .int (nI hg), .ref (b + 84), .ref (b + 85), .int sc, .int kc, .int bc, .int bo, .int ag, .int bk, .ref (b + 86), .ref (b + 87)])) → (w3 78 = aI G 131 A) → (w3 79 = aI G 262 ims) → (w3 80 = aZ G 2 kf) → (w3 81 = aI G 80 sg) → (w3 82 = aI G 64 gr) → (w3 83 = aI G 64 mk) → (w3 84 = aI G 64 rs) → (w3 85 = aI G 8 se) → (w3 86 = aI G 6272 tt) → (w3 87 = aI G 49 tc) → (∀ j, (j < 77 ∨ 88 ≤ j) → w3 j = w j) → n - k < fu → V κ G b (N, 0, 0) w3 27 [some (.ref (b + 77)), some (.int (nI 0)), some (.int c), some (.int (nI k)), none, none] [] := by
          intro fu
          induction fu with
          | zero => intro k c A w3 hk hc hA m0_w3 m1_w3 m2_w3 m3_w3 m4_w3 m5_w3 m6_w3 m7_w3 m8_w3 m9_w3 m10_w3 fr_w3 hm; exact absurd hm (Nat.not_lt_zero _)
          | succ fu ih3 =>
            intro k c A w3 hk hc hA m0_w3 m1_w3 m2_w3 m3_w3 m4_w3 m5_w3 m6_w3 m7_w3 m8_w3 m9_w3 m10_w3 fr_w3 hm
            have hA1 := (hA.2 128 (by omega)).trans e1
            have hA2 := (hA.2 129 (by omega)).trans e2
            refine r_iload_n X eX6_lay_27 rfl ?_
            refine r_aload_n X eX6_lay_28 rfl ?_
            refine gf_X6_127 X eX6_lay_29 (by omega) m0_w3 ?_
            refine r_icmp_ge (tgt := 131) X eX6_lay_32 (by decide) (nI_toInt (by omega)) (nI_toInt (by omega)) (fun c_4 => ?_) (fun c_4 => ?_)
            ·
              refine r_aload_n X eX6_lay_131 rfl ?_
              refine r_iconst X eX6_lay_132 (nI 0) (by decide) ?_
              refine pf_X6_127 X eX6_lay_133 (by omega) m0_w3 (fun w5 n5_w5 uu5 => ?_)
              have m1_w5 := (uu5 78 (by omega)).trans m1_w3
              have m2_w5 := (uu5 79 (by omega)).trans m2_w3
              have m3_w5 := (uu5 80 (by omega)).trans m3_w3
              have m4_w5 := (uu5 81 (by omega)).trans m4_w3
              have m5_w5 := (uu5 82 (by omega)).trans m5_w3
              have m6_w5 := (uu5 83 (by omega)).trans m6_w3
              have m7_w5 := (uu5 84 (by omega)).trans m7_w3
              have m8_w5 := (uu5 85 (by omega)).trans m8_w3
              have m9_w5 := (uu5 86 (by omega)).trans m9_w3
              have m10_w5 := (uu5 87 (by omega)).trans m10_w3
              have fr_w5 : ∀ j, (j < 77 ∨ 88 ≤ j) → w5 j = w j := fun j hj => (uu5 j (by omega)).trans (fr_w3 j hj)
              refine r_iload_n X eX6_lay_136 rfl ?_
              exact ret _ _ _ _ _ eX6_lay_137 (by rw [show fLay lw P n sg im kf (nI 0) = (layC P sg 0, (lw, layP P sg 0, 0, sg, im, kf)) from by rw [fLay, if_pos (by omega), tn_nI hnh, if_pos hff]]; exact ⟨hc.trans (by rw [show k = duS P.1 P.2.1 by omega]; exact FLy_sum hP), ⟨_, _, _, _, _, _, _, _, _, _, _, _, _, _, _, _, ⟨n5_w5, m1_w5, m2_w5, m3_w5, m4_w5, m5_w5, m6_w5, m7_w5, m8_w5, m9_w5, m10_w5⟩, Ly0_end hst (by omega) hA, himg, Nat.zero_le _⟩, fr_w5⟩)
            ·
              refine r_aload_n X eX6_lay_35 rfl ?_
              refine r_iload_n X eX6_lay_36 rfl ?_
              refine cp_X6_130 X eX6_lay_37 (c_X6_isBetween _ G b N w3 hN n wd hg sc kc bc bo ag bk A ims kf sg gr mk rs se tt tc ⟨m0_w3, m1_w3, m2_w3, m3_w3, m4_w3, m5_w3, m6_w3, m7_w3, m8_w3, m9_w3, m10_w3⟩ P hP hA1 hA2 k (by omega)) (by decide) (by omega) m0_w3 rfl (Nat.le_of_ble_eq_true rfl) ?_
              refine r_ifne_b (tgt := 125) X eX6_lay_40 (by decide) (fun c_6 => ?_) (fun c_6 => ?_)
              ·
                refine r_iinc X eX6_lay_125 rfl (nI (k + 1)) (inc_nI _) (L2 := [some (.ref (b + 77)), some (.int (nI 0)), some (.int c), some (.int (nI (k + 1))), none, none]) rfl ?_
                refine r_goto (tgt := 27) X eX6_lay_128 (by decide) ?_
                exact ih3 (k + 1) c A w3 (by omega) (by rw [hc, sm, FLy, if_pos c_6, Int32.add_zero]) (LyI_sk hA c_6) m0_w3 m1_w3 m2_w3 m3_w3 m4_w3 m5_w3 m6_w3 m7_w3 m8_w3 m9_w3 m10_w3 fr_w3 (by omega)
              ·
                have hmm := Nat.mod_lt k (show 0 < P.1 + 1 by omega)
                have hdd := dm_3 (w := P.1) (h := P.2.1) (k := k) (by omega)
                have hd1 := dm_1 (w := P.1) (k := k)
                refine r_iload_n X eX6_lay_43 rfl ?_
                refine r_if_ne (tgt := 51) X eX6_lay_44 (by decide) (nI_toInt (by omega)) (fun c_7 => absurd c_7 (by omega)) (fun c_7 => ?_)
                refine r_iconst X eX6_lay_47 (nI 0) (by decide) ?_
                refine r_goto (tgt := 53) X eX6_lay_48 (by decide) ?_
                refine r_iload_n X eX6_lay_53 rfl ?_
                refine r_aload_n X eX6_lay_54 rfl ?_
                refine gf_X6_7 X eX6_lay_55 (by omega) m0_w3 ?_
                refine r_sipush X eX6_lay_58 (nI 128) (by decide) ?_
                refine r_iald X eX6_lay_61 (by omega) m1_w3 (by omega) (by decide) ?_
                refine r_top (y := nI P.1) hA1 ?_
                refine r_iconst X eX6_lay_62 (nI 1) (by decide) ?_
                refine r_iadd X eX6_lay_63 (nI (P.1 + 1)) (addN (by omega)) ?_
                refine r_irem X eX6_lay_64 (nI_ne0 (by omega) (by omega)) (nI (k % (P.1 + 1))) (pk_rem (by omega) (by omega) (by omega)) ?_
                refine r_iload_n X eX6_lay_65 rfl ?_
                refine r_aload_n X eX6_lay_66 rfl ?_
                refine gf_X6_7 X eX6_lay_67 (by omega) m0_w3 ?_
                refine r_sipush X eX6_lay_70 (nI 128) (by decide) ?_
                refine r_iald X eX6_lay_73 (by omega) m1_w3 (by omega) (by decide) ?_
                refine r_top (y := nI P.1) hA1 ?_
                refine r_iconst X eX6_lay_74 (nI 1) (by decide) ?_
                refine r_iadd X eX6_lay_75 (nI (P.1 + 1)) (addN (by omega)) ?_
                refine r_idiv X eX6_lay_76 (nI_ne0 (by omega) (by omega)) (nI (k / (P.1 + 1))) (pk_div (by omega) (by omega) (by omega)) ?_
                refine cp_X6_52 X eX6_lay_77 (c_X6_at _ G b N w3 (k % (P.1 + 1)) (k / (P.1 + 1))) (by decide) rfl (Nat.le_of_ble_eq_true rfl) ?_
                refine r_iadd X eX6_lay_80 (nI (8 * (k / (P.1 + 1)) + k % (P.1 + 1))) (addN (by omega)) ?_
                refine r_istore X eX6_lay_81 (Nat.le_of_ble_eq_true rfl) (L2 := [some (.ref (b + 77)), some (.int (nI 0)), some (.int c), some (.int (nI k)), some (.int (nI (8 * (k / (P.1 + 1)) + k % (P.1 + 1)))), none]) rfl ?_
                refine r_aload_n X eX6_lay_83 rfl ?_
                refine r_aload_n X eX6_lay_84 rfl ?_
                refine gf_X6_20 X eX6_lay_85 (by omega) m0_w3 ?_
                refine r_iload_n X eX6_lay_88 rfl ?_
                refine r_iald X eX6_lay_89 (by omega) m4_w3 (by omega) (by decide) ?_
                refine r_iload_n X eX6_lay_90 rfl ?_
                refine cp_X6_134 X eX6_lay_91 (c_X6_valueOf _ G b N w3 hN n wd hg sc kc bc bo ag bk A ims kf sg gr mk rs se tt tc ⟨m0_w3, m1_w3, m2_w3, m3_w3, m4_w3, m5_w3, m6_w3, m7_w3, m8_w3, m9_w3, m10_w3⟩ (sg k) 0 (by omega)) (by decide) (by omega) m0_w3 rfl (Nat.le_of_ble_eq_true rfl) ?_
                refine r_istore X eX6_lay_94 (Nat.le_of_ble_eq_true rfl) (L2 := [some (.ref (b + 77)), some (.int (nI 0)), some (.int c), some (.int (nI k)), some (.int (nI (8 * (k / (P.1 + 1)) + k % (P.1 + 1)))), some (.int (vS 0 (sg k)))]) rfl ?_
                refine r_iload_n X eX6_lay_96 rfl ?_
                refine r_aload_n X eX6_lay_97 rfl ?_
                refine gf_X6_7 X eX6_lay_98 (by omega) m0_w3 ?_
                refine r_iload X eX6_lay_101 rfl ?_
                refine r_iald X eX6_lay_103 (by omega) m1_w3 (by omega) (by decide) ?_
                refine r_top (y := P.2.2.1 (k % (P.1 + 1)) (k / (P.1 + 1))) (by have hh := hA.1 (k % (P.1 + 1)) (k / (P.1 + 1)) (by omega) (by omega); rw [if_neg (fun q => absurd q.2.2 (by omega))] at hh; rw [Nat.zero_add] at hh; exact hh.trans (stI_at hst (by omega) (by omega)).1) ?_
                refine r_iload X eX6_lay_104 rfl ?_
                refine r_icmp_ne (tgt := 113) X eX6_lay_106 (by decide) rfl rfl (fun c_8 => ?_) (fun c_8 => ?_)
                ·
                  refine r_iconst X eX6_lay_113 (nI 1) (by decide) ?_
                  refine r_iadd X eX6_lay_114 (c + (nI 1)) rfl ?_
                  refine r_istore_n X eX6_lay_115 (Nat.le_of_ble_eq_true rfl) (L2 := [some (.ref (b + 77)), some (.int (nI 0)), some (.int (c + (nI 1))), some (.int (nI k)), some (.int (nI (8 * (k / (P.1 + 1)) + k % (P.1 + 1)))), some (.int (vS 0 (sg k)))]) rfl ?_
                  refine r_aload_n X eX6_lay_116 rfl ?_
                  refine gf_X6_7 X eX6_lay_117 (by omega) m0_w3 ?_
                  refine r_iload X eX6_lay_120 rfl ?_
                  refine r_iload X eX6_lay_122 rfl ?_
                  refine r_iast X eX6_lay_124 (by omega) m1_w3 (by omega) (by decide) (fun w9 n9_w9 uu9 => ?_)
                  have m0_w9 := (uu9 77 (by omega)).trans m0_w3
                  have m2_w9 := (uu9 79 (by omega)).trans m2_w3
                  have m3_w9 := (uu9 80 (by omega)).trans m3_w3
                  have m4_w9 := (uu9 81 (by omega)).trans m4_w3
                  have m5_w9 := (uu9 82 (by omega)).trans m5_w3
                  have m6_w9 := (uu9 83 (by omega)).trans m6_w3
                  have m7_w9 := (uu9 84 (by omega)).trans m7_w3
                  have m8_w9 := (uu9 85 (by omega)).trans m8_w3
                  have m9_w9 := (uu9 86 (by omega)).trans m9_w3
                  have m10_w9 := (uu9 87 (by omega)).trans m10_w3
                  have fr_w9 : ∀ j, (j < 77 ∨ 88 ≤ j) → w9 j = w j := fun j hj => (uu9 j (by omega)).trans (fr_w3 j hj)
                  refine r_iinc X eX6_lay_125 rfl (nI (k + 1)) (inc_nI _) (L2 := [some (.ref (b + 77)), some (.int (nI 0)), some (.int (c + (nI 1))), some (.int (nI (k + 1))), some (.int (nI (8 * (k / (P.1 + 1)) + k % (P.1 + 1)))), some (.int (vS 0 (sg k)))]) rfl ?_
                  refine r_goto (tgt := 27) X eX6_lay_128 (by decide) ?_
                  refine r_fg 4 (L2 := [some (.ref (b + 77)), some (.int (nI 0)), some (.int (c + (nI 1))), some (.int (nI (k + 1))), none, some (.int (vS 0 (sg k)))]) rfl ?_
                  refine r_fg 5 (L2 := [some (.ref (b + 77)), some (.int (nI 0)), some (.int (c + (nI 1))), some (.int (nI (k + 1))), none, none]) rfl ?_
                  exact ih3 (k + 1) (c + (nI 1)) (upd A (8 * (k / (P.1 + 1)) + k % (P.1 + 1)) (vS 0 (sg k))) w9 (by omega) (by rw [hc, sm, FLy, if_neg c_6, if_pos rfl, if_neg (fun q => c_8 (congrArg Int32.toInt q))]; rfl) (by have hh := LyI_st (by omega) (by omega) hA c_6 (by omega); rw [Nat.zero_add] at hh; exact hh) m0_w9 n9_w9 m2_w9 m3_w9 m4_w9 m5_w9 m6_w9 m7_w9 m8_w9 m9_w9 m10_w9 fr_w9 (by omega)
                ·
                  refine r_iconst X eX6_lay_109 (nI 0) (by decide) ?_
                  refine r_goto (tgt := 114) X eX6_lay_110 (by decide) ?_
                  refine r_iadd X eX6_lay_114 (c + (nI 0)) rfl ?_
                  refine r_istore_n X eX6_lay_115 (Nat.le_of_ble_eq_true rfl) (L2 := [some (.ref (b + 77)), some (.int (nI 0)), some (.int (c + (nI 0))), some (.int (nI k)), some (.int (nI (8 * (k / (P.1 + 1)) + k % (P.1 + 1)))), some (.int (vS 0 (sg k)))]) rfl ?_
                  refine r_aload_n X eX6_lay_116 rfl ?_
                  refine gf_X6_7 X eX6_lay_117 (by omega) m0_w3 ?_
                  refine r_iload X eX6_lay_120 rfl ?_
                  refine r_iload X eX6_lay_122 rfl ?_
                  refine r_iast X eX6_lay_124 (by omega) m1_w3 (by omega) (by decide) (fun w10 n10_w10 uu10 => ?_)
                  have m0_w10 := (uu10 77 (by omega)).trans m0_w3
                  have m2_w10 := (uu10 79 (by omega)).trans m2_w3
                  have m3_w10 := (uu10 80 (by omega)).trans m3_w3
                  have m4_w10 := (uu10 81 (by omega)).trans m4_w3
                  have m5_w10 := (uu10 82 (by omega)).trans m5_w3
                  have m6_w10 := (uu10 83 (by omega)).trans m6_w3
                  have m7_w10 := (uu10 84 (by omega)).trans m7_w3
                  have m8_w10 := (uu10 85 (by omega)).trans m8_w3
                  have m9_w10 := (uu10 86 (by omega)).trans m9_w3
                  have m10_w10 := (uu10 87 (by omega)).trans m10_w3
                  have fr_w10 : ∀ j, (j < 77 ∨ 88 ≤ j) → w10 j = w j := fun j hj => (uu10 j (by omega)).trans (fr_w3 j hj)
                  refine r_iinc X eX6_lay_125 rfl (nI (k + 1)) (inc_nI _) (L2 := [some (.ref (b + 77)), some (.int (nI 0)), some (.int (c + (nI 0))), some (.int (nI (k + 1))), some (.int (nI (8 * (k / (P.1 + 1)) + k % (P.1 + 1)))), some (.int (vS 0 (sg k)))]) rfl ?_
                  refine r_goto (tgt := 27) X eX6_lay_128 (by decide) ?_
                  refine r_fg 4 (L2 := [some (.ref (b + 77)), some (.int (nI 0)), some (.int (c + (nI 0))), some (.int (nI (k + 1))), none, some (.int (vS 0 (sg k)))]) rfl ?_
                  refine r_fg 5 (L2 := [some (.ref (b + 77)), some (.int (nI 0)), some (.int (c + (nI 0))), some (.int (nI (k + 1))), none, none]) rfl ?_
                  exact ih3 (k + 1) (c + (nI 0)) (upd A (8 * (k / (P.1 + 1)) + k % (P.1 + 1)) (vS 0 (sg k))) w10 (by omega) (by rw [hc, sm, FLy, if_neg c_6, if_pos rfl, if_pos (Int32.toInt_inj.mp c_8)]; rfl) (by have hh := LyI_st (by omega) (by omega) hA c_6 (by omega); rw [Nat.zero_add] at hh; exact hh) m0_w10 n10_w10 m2_w10 m3_w10 m4_w10 m5_w10 m6_w10 m7_w10 m8_w10 m9_w10 m10_w10 fr_w10 (by omega)
        exact lp3 _ 0 0 st w (by omega) rfl ⟨fun x y hx hy => by rw [if_neg (fun q => absurd q.2.2 (by omega))], fun j hj => rfl⟩ m0 m1 m2 m3 m4 m5 m6 m7 m8 m9 m10 fr_w (Nat.lt_succ_self _)
      ·
        refine r_istore_n X eX6_lay_24 (Nat.le_of_ble_eq_true rfl) (L2 := [some (.ref (b + 77)), some (.int (nI 1)), some (.int ((0 : Int32))), none, none, none]) rfl ?_
        refine r_iconst X eX6_lay_25 (nI 0) (by decide) ?_
        refine r_istore_n X eX6_lay_26 (Nat.le_of_ble_eq_true rfl) (L2 := [some (.ref (b + 77)), some (.int (nI 1)), some (.int ((0 : Int32))), some (.int (nI 0)), none, none]) rfl ?_
        have lp11 : ∀ (fu : Nat) (k : Nat) (c : Int32) (A : Nat → Int32) (w11 : Wd), (k ≤ n) → (c = sm (FLy 1 P sg) k) → (LyI 64 P (fun k => vS 1 (sg k)) st k A) → (w11 77 = .inr (6, [.ref (b + 78), .ref (b + 79), .ref (b + 80), .ref (b + 81), .int (nI n), .ref (b + 82), .ref (b + 83), .int (nI wd), .int (nI hg), .ref (b + 84), .ref (b + 85), .int sc, .int kc, .int bc, .int bo, .int ag, .int bk, .ref (b + 86), .ref (b + 87)])) → (w11 78 = aI G 131 A) → (w11 79 = aI G 262 ims) → (w11 80 = aZ G 2 kf) → (w11 81 = aI G 80 sg) → (w11 82 = aI G 64 gr) → (w11 83 = aI G 64 mk) → (w11 84 = aI G 64 rs) → (w11 85 = aI G 8 se) → (w11 86 = aI G 6272 tt) → (w11 87 = aI G 49 tc) → (∀ j, (j < 77 ∨ 88 ≤ j) → w11 j = w j) → n - k < fu → V κ G b (N, 0, 0) w11 27 [some (.ref (b + 77)), some (.int (nI 1)), some (.int c), some (.int (nI k)), none, none] [] := by
          intro fu
          induction fu with
          | zero => intro k c A w11 hk hc hA m0_w11 m1_w11 m2_w11 m3_w11 m4_w11 m5_w11 m6_w11 m7_w11 m8_w11 m9_w11 m10_w11 fr_w11 hm; exact absurd hm (Nat.not_lt_zero _)
          | succ fu ih11 =>
            intro k c A w11 hk hc hA m0_w11 m1_w11 m2_w11 m3_w11 m4_w11 m5_w11 m6_w11 m7_w11 m8_w11 m9_w11 m10_w11 fr_w11 hm
            have hA1 := (hA.2 128 (by omega)).trans e1
            have hA2 := (hA.2 129 (by omega)).trans e2
            refine r_iload_n X eX6_lay_27 rfl ?_
            refine r_aload_n X eX6_lay_28 rfl ?_
            refine gf_X6_127 X eX6_lay_29 (by omega) m0_w11 ?_
            refine r_icmp_ge (tgt := 131) X eX6_lay_32 (by decide) (nI_toInt (by omega)) (nI_toInt (by omega)) (fun c_12 => ?_) (fun c_12 => ?_)
            ·
              refine r_aload_n X eX6_lay_131 rfl ?_
              refine r_iconst X eX6_lay_132 (nI 0) (by decide) ?_
              refine pf_X6_127 X eX6_lay_133 (by omega) m0_w11 (fun w13 n13_w13 uu13 => ?_)
              have m1_w13 := (uu13 78 (by omega)).trans m1_w11
              have m2_w13 := (uu13 79 (by omega)).trans m2_w11
              have m3_w13 := (uu13 80 (by omega)).trans m3_w11
              have m4_w13 := (uu13 81 (by omega)).trans m4_w11
              have m5_w13 := (uu13 82 (by omega)).trans m5_w11
              have m6_w13 := (uu13 83 (by omega)).trans m6_w11
              have m7_w13 := (uu13 84 (by omega)).trans m7_w11
              have m8_w13 := (uu13 85 (by omega)).trans m8_w11
              have m9_w13 := (uu13 86 (by omega)).trans m9_w11
              have m10_w13 := (uu13 87 (by omega)).trans m10_w11
              have fr_w13 : ∀ j, (j < 77 ∨ 88 ≤ j) → w13 j = w j := fun j hj => (uu13 j (by omega)).trans (fr_w11 j hj)
              refine r_iload_n X eX6_lay_136 rfl ?_
              exact ret _ _ _ _ _ eX6_lay_137 (by rw [show fLay lw P n sg im kf (nI 1) = (layC P sg 1, (lw, layP P sg 1, 0, sg, im, kf)) from by rw [fLay, if_pos (by omega), tn_nI hnh, if_pos hff]]; exact ⟨hc.trans (by rw [show k = duS P.1 P.2.1 by omega]; exact FLy_sum hP), ⟨_, _, _, _, _, _, _, _, _, _, _, _, _, _, _, _, ⟨n13_w13, m1_w13, m2_w13, m3_w13, m4_w13, m5_w13, m6_w13, m7_w13, m8_w13, m9_w13, m10_w13⟩, Ly1_end hst (by omega) hA, himg, Nat.zero_le _⟩, fr_w13⟩)
            ·
              refine r_aload_n X eX6_lay_35 rfl ?_
              refine r_iload_n X eX6_lay_36 rfl ?_
              refine cp_X6_130 X eX6_lay_37 (c_X6_isBetween _ G b N w11 hN n wd hg sc kc bc bo ag bk A ims kf sg gr mk rs se tt tc ⟨m0_w11, m1_w11, m2_w11, m3_w11, m4_w11, m5_w11, m6_w11, m7_w11, m8_w11, m9_w11, m10_w11⟩ P hP hA1 hA2 k (by omega)) (by decide) (by omega) m0_w11 rfl (Nat.le_of_ble_eq_true rfl) ?_
              refine r_ifne_b (tgt := 125) X eX6_lay_40 (by decide) (fun c_14 => ?_) (fun c_14 => ?_)
              ·
                refine r_iinc X eX6_lay_125 rfl (nI (k + 1)) (inc_nI _) (L2 := [some (.ref (b + 77)), some (.int (nI 1)), some (.int c), some (.int (nI (k + 1))), none, none]) rfl ?_
                refine r_goto (tgt := 27) X eX6_lay_128 (by decide) ?_
                exact ih11 (k + 1) c A w11 (by omega) (by rw [hc, sm, FLy, if_pos c_14, Int32.add_zero]) (LyI_sk hA c_14) m0_w11 m1_w11 m2_w11 m3_w11 m4_w11 m5_w11 m6_w11 m7_w11 m8_w11 m9_w11 m10_w11 fr_w11 (by omega)
              ·
                have hmm := Nat.mod_lt k (show 0 < P.1 + 1 by omega)
                have hdd := dm_3 (w := P.1) (h := P.2.1) (k := k) (by omega)
                have hd1 := dm_1 (w := P.1) (k := k)
                refine r_iload_n X eX6_lay_43 rfl ?_
                refine r_if_ne (tgt := 51) X eX6_lay_44 (by decide) (nI_toInt (by omega)) (fun c_15 => ?_) (fun c_15 => absurd c_15 (by omega))
                refine r_bipush X eX6_lay_51 (nI 64) (by decide) ?_
                refine r_iload_n X eX6_lay_53 rfl ?_
                refine r_aload_n X eX6_lay_54 rfl ?_
                refine gf_X6_7 X eX6_lay_55 (by omega) m0_w11 ?_
                refine r_sipush X eX6_lay_58 (nI 128) (by decide) ?_
                refine r_iald X eX6_lay_61 (by omega) m1_w11 (by omega) (by decide) ?_
                refine r_top (y := nI P.1) hA1 ?_
                refine r_iconst X eX6_lay_62 (nI 1) (by decide) ?_
                refine r_iadd X eX6_lay_63 (nI (P.1 + 1)) (addN (by omega)) ?_
                refine r_irem X eX6_lay_64 (nI_ne0 (by omega) (by omega)) (nI (k % (P.1 + 1))) (pk_rem (by omega) (by omega) (by omega)) ?_
                refine r_iload_n X eX6_lay_65 rfl ?_
                refine r_aload_n X eX6_lay_66 rfl ?_
                refine gf_X6_7 X eX6_lay_67 (by omega) m0_w11 ?_
                refine r_sipush X eX6_lay_70 (nI 128) (by decide) ?_
                refine r_iald X eX6_lay_73 (by omega) m1_w11 (by omega) (by decide) ?_
                refine r_top (y := nI P.1) hA1 ?_
                refine r_iconst X eX6_lay_74 (nI 1) (by decide) ?_
                refine r_iadd X eX6_lay_75 (nI (P.1 + 1)) (addN (by omega)) ?_
                refine r_idiv X eX6_lay_76 (nI_ne0 (by omega) (by omega)) (nI (k / (P.1 + 1))) (pk_div (by omega) (by omega) (by omega)) ?_
                refine cp_X6_52 X eX6_lay_77 (c_X6_at _ G b N w11 (k % (P.1 + 1)) (k / (P.1 + 1))) (by decide) rfl (Nat.le_of_ble_eq_true rfl) ?_
                refine r_iadd X eX6_lay_80 (nI (64 + (8 * (k / (P.1 + 1)) + k % (P.1 + 1)))) (addN (by omega)) ?_
                refine r_istore X eX6_lay_81 (Nat.le_of_ble_eq_true rfl) (L2 := [some (.ref (b + 77)), some (.int (nI 1)), some (.int c), some (.int (nI k)), some (.int (nI (64 + (8 * (k / (P.1 + 1)) + k % (P.1 + 1))))), none]) rfl ?_
                refine r_aload_n X eX6_lay_83 rfl ?_
                refine r_aload_n X eX6_lay_84 rfl ?_
                refine gf_X6_20 X eX6_lay_85 (by omega) m0_w11 ?_
                refine r_iload_n X eX6_lay_88 rfl ?_
                refine r_iald X eX6_lay_89 (by omega) m4_w11 (by omega) (by decide) ?_
                refine r_iload_n X eX6_lay_90 rfl ?_
                refine cp_X6_134 X eX6_lay_91 (c_X6_valueOf _ G b N w11 hN n wd hg sc kc bc bo ag bk A ims kf sg gr mk rs se tt tc ⟨m0_w11, m1_w11, m2_w11, m3_w11, m4_w11, m5_w11, m6_w11, m7_w11, m8_w11, m9_w11, m10_w11⟩ (sg k) 1 (by omega)) (by decide) (by omega) m0_w11 rfl (Nat.le_of_ble_eq_true rfl) ?_
                refine r_istore X eX6_lay_94 (Nat.le_of_ble_eq_true rfl) (L2 := [some (.ref (b + 77)), some (.int (nI 1)), some (.int c), some (.int (nI k)), some (.int (nI (64 + (8 * (k / (P.1 + 1)) + k % (P.1 + 1))))), some (.int (vS 1 (sg k)))]) rfl ?_
                refine r_iload_n X eX6_lay_96 rfl ?_
                refine r_aload_n X eX6_lay_97 rfl ?_
                refine gf_X6_7 X eX6_lay_98 (by omega) m0_w11 ?_
                refine r_iload X eX6_lay_101 rfl ?_
                refine r_iald X eX6_lay_103 (by omega) m1_w11 (by omega) (by decide) ?_
                refine r_top (y := P.2.2.2 (k % (P.1 + 1)) (k / (P.1 + 1))) (by have hh := hA.1 (k % (P.1 + 1)) (k / (P.1 + 1)) (by omega) (by omega); rw [if_neg (fun q => absurd q.2.2 (by omega))] at hh; exact hh.trans (stI_at hst (by omega) (by omega)).2) ?_
                refine r_iload X eX6_lay_104 rfl ?_
                refine r_icmp_ne (tgt := 113) X eX6_lay_106 (by decide) rfl rfl (fun c_16 => ?_) (fun c_16 => ?_)
                ·
                  refine r_iconst X eX6_lay_113 (nI 1) (by decide) ?_
                  refine r_iadd X eX6_lay_114 (c + (nI 1)) rfl ?_
                  refine r_istore_n X eX6_lay_115 (Nat.le_of_ble_eq_true rfl) (L2 := [some (.ref (b + 77)), some (.int (nI 1)), some (.int (c + (nI 1))), some (.int (nI k)), some (.int (nI (64 + (8 * (k / (P.1 + 1)) + k % (P.1 + 1))))), some (.int (vS 1 (sg k)))]) rfl ?_
                  refine r_aload_n X eX6_lay_116 rfl ?_
                  refine gf_X6_7 X eX6_lay_117 (by omega) m0_w11 ?_
                  refine r_iload X eX6_lay_120 rfl ?_
                  refine r_iload X eX6_lay_122 rfl ?_
                  refine r_iast X eX6_lay_124 (by omega) m1_w11 (by omega) (by decide) (fun w17 n17_w17 uu17 => ?_)
                  have m0_w17 := (uu17 77 (by omega)).trans m0_w11
                  have m2_w17 := (uu17 79 (by omega)).trans m2_w11
                  have m3_w17 := (uu17 80 (by omega)).trans m3_w11
                  have m4_w17 := (uu17 81 (by omega)).trans m4_w11
                  have m5_w17 := (uu17 82 (by omega)).trans m5_w11
                  have m6_w17 := (uu17 83 (by omega)).trans m6_w11
                  have m7_w17 := (uu17 84 (by omega)).trans m7_w11
                  have m8_w17 := (uu17 85 (by omega)).trans m8_w11
                  have m9_w17 := (uu17 86 (by omega)).trans m9_w11
                  have m10_w17 := (uu17 87 (by omega)).trans m10_w11
                  have fr_w17 : ∀ j, (j < 77 ∨ 88 ≤ j) → w17 j = w j := fun j hj => (uu17 j (by omega)).trans (fr_w11 j hj)
                  refine r_iinc X eX6_lay_125 rfl (nI (k + 1)) (inc_nI _) (L2 := [some (.ref (b + 77)), some (.int (nI 1)), some (.int (c + (nI 1))), some (.int (nI (k + 1))), some (.int (nI (64 + (8 * (k / (P.1 + 1)) + k % (P.1 + 1))))), some (.int (vS 1 (sg k)))]) rfl ?_
                  refine r_goto (tgt := 27) X eX6_lay_128 (by decide) ?_
                  refine r_fg 4 (L2 := [some (.ref (b + 77)), some (.int (nI 1)), some (.int (c + (nI 1))), some (.int (nI (k + 1))), none, some (.int (vS 1 (sg k)))]) rfl ?_
                  refine r_fg 5 (L2 := [some (.ref (b + 77)), some (.int (nI 1)), some (.int (c + (nI 1))), some (.int (nI (k + 1))), none, none]) rfl ?_
                  exact ih11 (k + 1) (c + (nI 1)) (upd A (64 + (8 * (k / (P.1 + 1)) + k % (P.1 + 1))) (vS 1 (sg k))) w17 (by omega) (by rw [hc, sm, FLy, if_neg c_14, if_neg (show ¬ (1 : Nat) = 0 by decide), if_neg (fun q => c_16 (congrArg Int32.toInt q))]; rfl) (LyI_st (by omega) (by omega) hA c_14 (by omega)) m0_w17 n17_w17 m2_w17 m3_w17 m4_w17 m5_w17 m6_w17 m7_w17 m8_w17 m9_w17 m10_w17 fr_w17 (by omega)
                ·
                  refine r_iconst X eX6_lay_109 (nI 0) (by decide) ?_
                  refine r_goto (tgt := 114) X eX6_lay_110 (by decide) ?_
                  refine r_iadd X eX6_lay_114 (c + (nI 0)) rfl ?_
                  refine r_istore_n X eX6_lay_115 (Nat.le_of_ble_eq_true rfl) (L2 := [some (.ref (b + 77)), some (.int (nI 1)), some (.int (c + (nI 0))), some (.int (nI k)), some (.int (nI (64 + (8 * (k / (P.1 + 1)) + k % (P.1 + 1))))), some (.int (vS 1 (sg k)))]) rfl ?_
                  refine r_aload_n X eX6_lay_116 rfl ?_
                  refine gf_X6_7 X eX6_lay_117 (by omega) m0_w11 ?_
                  refine r_iload X eX6_lay_120 rfl ?_
                  refine r_iload X eX6_lay_122 rfl ?_
                  refine r_iast X eX6_lay_124 (by omega) m1_w11 (by omega) (by decide) (fun w18 n18_w18 uu18 => ?_)
                  have m0_w18 := (uu18 77 (by omega)).trans m0_w11
                  have m2_w18 := (uu18 79 (by omega)).trans m2_w11
                  have m3_w18 := (uu18 80 (by omega)).trans m3_w11
                  have m4_w18 := (uu18 81 (by omega)).trans m4_w11
                  have m5_w18 := (uu18 82 (by omega)).trans m5_w11
                  have m6_w18 := (uu18 83 (by omega)).trans m6_w11
                  have m7_w18 := (uu18 84 (by omega)).trans m7_w11
                  have m8_w18 := (uu18 85 (by omega)).trans m8_w11
                  have m9_w18 := (uu18 86 (by omega)).trans m9_w11
                  have m10_w18 := (uu18 87 (by omega)).trans m10_w11
                  have fr_w18 : ∀ j, (j < 77 ∨ 88 ≤ j) → w18 j = w j := fun j hj => (uu18 j (by omega)).trans (fr_w11 j hj)
                  refine r_iinc X eX6_lay_125 rfl (nI (k + 1)) (inc_nI _) (L2 := [some (.ref (b + 77)), some (.int (nI 1)), some (.int (c + (nI 0))), some (.int (nI (k + 1))), some (.int (nI (64 + (8 * (k / (P.1 + 1)) + k % (P.1 + 1))))), some (.int (vS 1 (sg k)))]) rfl ?_
                  refine r_goto (tgt := 27) X eX6_lay_128 (by decide) ?_
                  refine r_fg 4 (L2 := [some (.ref (b + 77)), some (.int (nI 1)), some (.int (c + (nI 0))), some (.int (nI (k + 1))), none, some (.int (vS 1 (sg k)))]) rfl ?_
                  refine r_fg 5 (L2 := [some (.ref (b + 77)), some (.int (nI 1)), some (.int (c + (nI 0))), some (.int (nI (k + 1))), none, none]) rfl ?_
                  exact ih11 (k + 1) (c + (nI 0)) (upd A (64 + (8 * (k / (P.1 + 1)) + k % (P.1 + 1))) (vS 1 (sg k))) w18 (by omega) (by rw [hc, sm, FLy, if_neg c_14, if_neg (show ¬ (1 : Nat) = 0 by decide), if_pos (Int32.toInt_inj.mp c_16)]; rfl) (LyI_st (by omega) (by omega) hA c_14 (by omega)) m0_w18 n18_w18 m2_w18 m3_w18 m4_w18 m5_w18 m6_w18 m7_w18 m8_w18 m9_w18 m10_w18 fr_w18 (by omega)
        exact lp11 _ 0 0 st w (by omega) rfl ⟨fun x y hx hy => by rw [if_neg (fun q => absurd q.2.2 (by omega))], fun j hj => rfl⟩ m0 m1 m2 m3 m4 m5 m6 m7 m8 m9 m10 fr_w (Nat.lt_succ_self _)
    ·
      refine r_bipush X eX6_lay_20 ((-7 : Int32)) (by decide) ?_
      exact ret _ _ _ _ _ eX6_lay_22 (by rw [show fLay lw P n sg im kf (nI nh) = (-7, (lw, P, n, sg, im, kf)) from by rw [fLay, if_pos (by omega), tn_nI hnh, if_neg (fun q => by have hc17 := c_2; rw [q] at hc17; exact absurd hc17 (by decide))]]; exact ⟨rfl, ⟨_, _, _, _, _, _, _, _, _, _, _, _, _, _, _, _, ⟨m0, m1, m2, m3, m4, m5, m6, m7, m8, m9, m10⟩, hst, himg, hn8⟩, fr_w⟩)
  ·
    refine r_bipush X eX6_lay_9 ((-2 : Int32)) (by decide) ?_
    exact ret _ _ _ _ _ eX6_lay_11 (by rw [show fLay lw P n sg im kf how = (-2, (lw, P, n, sg, im, kf)) from if_neg (by omega)]; exact ⟨rfl, ⟨_, _, _, _, _, _, _, _, _, _, _, _, _, _, _, _, ⟨m0, m1, m2, m3, m4, m5, m6, m7, m8, m9, m10⟩, hst, himg, hn8⟩, fr_w⟩)
