set_option maxHeartbeats 4000000 in
set_option maxRecDepth 100000 in
theorem c_X6_layNumber (l : Launch) (G : Gs) (b N : Nat) (w : Wd) (hN : 88 ≤ N) (n wd hg : Nat) (sc kc bc bo ag bk : Int32) (st ims kf sg gr mk rs se tt tc : Nat → Int32) (hm : mW G b w n wd hg sc kc bc bo ag bk st ims kf sg gr mk rs se tt tc) (h2 : 2 ≤ wd) (h8 : wd ≤ 8) (g2 : 2 ≤ hg) (h9 : hg ≤ 8) (m : Nat) (hm31 : m < 2 ^ 31) : CI l yX6_layNumber cX6_layNumber 5 (some .boolean) 1 G b N w [.ref (b + 77), .int (nI m)] (fun r w2 => r = bI (qN m hg wd hg) ∧ (∃ se2, mW G b w2 n wd hg sc kc bc bo ag bk st ims kf sg gr mk rs se2 tt tc ∧ (∀ l, l < hg → se2 l = nI (dg m hg l)) ∧ ∀ j, (j < 77 ∨ 88 ≤ j) → w2 j = w j)) := by
  obtain ⟨m0, m1, m2, m3, m4, m5, m6, m7, m8, m9, m10⟩ := hm
  refine CZ_of (L0 := [some (.ref (b + 77)), some (.int (nI m)), none, none, none]) (by decide) rfl (by simp [Value.category]) rfl (Nat.le_of_ble_eq_true rfl) rfl (fun κ X ret => ?_)
  have fr_w : ∀ j, (j < 77 ∨ 88 ≤ j) → w j = w j := fun _ _ => rfl
  refine r_iload_n X eX6_layNumber_0 rfl ?_
  refine r_istore_n X eX6_layNumber_1 (Nat.le_of_ble_eq_true rfl) (L2 := [some (.ref (b + 77)), some (.int (nI m)), some (.int (nI m)), none, none]) rfl ?_
  refine r_aload_n X eX6_layNumber_2 rfl ?_
  refine gf_X6_49 X eX6_layNumber_3 (by omega) m0 ?_
  refine r_iconst X eX6_layNumber_6 (nI 1) (by decide) ?_
  refine r_isub X eX6_layNumber_7 (nP hg) (subP _) ?_
  refine r_istore_n X eX6_layNumber_8 (Nat.le_of_ble_eq_true rfl) (L2 := [some (.ref (b + 77)), some (.int (nI m)), some (.int (nI m)), some (.int (nP hg)), none]) rfl ?_
  have lp1 : ∀ (fu : Nat) (t d : Nat) (se1 : Nat → Int32) (w1 : Wd), (t ≤ hg) → (d = m / 10 ^ (hg - t)) → (d < 2 ^ 31) → (∀ l, t ≤ l → l < hg → se1 l = nI (dg m hg l)) → (w1 77 = .inr (6, [.ref (b + 78), .ref (b + 79), .ref (b + 80), .ref (b + 81), .int (nI n), .ref (b + 82), .ref (b + 83), .int (nI wd), .int (nI hg), .ref (b + 84), .ref (b + 85), .int sc, .int kc, .int bc, .int bo, .int ag, .int bk, .ref (b + 86), .ref (b + 87)])) → (w1 78 = aI G 131 st) → (w1 79 = aI G 262 ims) → (w1 80 = aZ G 2 kf) → (w1 81 = aI G 80 sg) → (w1 82 = aI G 64 gr) → (w1 83 = aI G 64 mk) → (w1 84 = aI G 64 rs) → (w1 85 = aI G 8 se1) → (w1 86 = aI G 6272 tt) → (w1 87 = aI G 49 tc) → (∀ j, (j < 77 ∨ 88 ≤ j) → w1 j = w j) → t < fu → V κ G b (N, 0, 0) w1 9 [some (.ref (b + 77)), some (.int (nI m)), some (.int (nI d)), some (.int (nP t)), none] [] := by
    intro fu
    induction fu with
    | zero => intro t d se1 w1 ht hd hdl hz m0_w1 m1_w1 m2_w1 m3_w1 m4_w1 m5_w1 m6_w1 m7_w1 m8_w1 m9_w1 m10_w1 fr_w1 hm; exact absurd hm (Nat.not_lt_zero _)
    | succ fu ih1 =>
      intro t d se1 w1 ht hd hdl hz m0_w1 m1_w1 m2_w1 m3_w1 m4_w1 m5_w1 m6_w1 m7_w1 m8_w1 m9_w1 m10_w1 fr_w1 hm
      refine r_iload_n X eX6_layNumber_9 rfl ?_
      refine r_if_lt (tgt := 34) X eX6_layNumber_10 (by decide) (nP_toInt (by omega)) (fun c_2 => ?_) (fun c_2 => ?_)
      ·
        have hd0 : d = m / 10 ^ hg := by rw [hd, show t = 0 by omega]; rfl
        refine r_iload_n X eX6_layNumber_34 rfl ?_
        refine r_if_ne (tgt := 42) X eX6_layNumber_35 (by decide) (nI_toInt (by omega)) (fun c_3 => ?_) (fun c_3 => ?_)
        ·
          refine r_iconst X eX6_layNumber_42 (nI 0) (by decide) ?_
          refine r_top (y := bI (qN m hg wd 0)) (bI_f (fun q => absurd q.1 (by omega))) ?_
          refine r_istore_n X eX6_layNumber_43 (Nat.le_of_ble_eq_true rfl) (L2 := [some (.ref (b + 77)), some (.int (nI m)), some (.int (nI d)), some (.int (bI (qN m hg wd 0))), none]) rfl ?_
          refine r_iconst X eX6_layNumber_44 (nI 0) (by decide) ?_
          refine r_istore X eX6_layNumber_45 (Nat.le_of_ble_eq_true rfl) (L2 := [some (.ref (b + 77)), some (.int (nI m)), some (.int (nI d)), some (.int (bI (qN m hg wd 0))), some (.int (nI 0))]) rfl ?_
          have lp4 : ∀ (fu : Nat) (y : Nat), (y ≤ hg) → hg - y < fu → V κ G b (N, 0, 0) w1 47 [some (.ref (b + 77)), some (.int (nI m)), some (.int (nI d)), some (.int (bI (qN m hg wd y))), some (.int (nI y))] [] := by
            intro fu
            induction fu with
            | zero => intro y hy hm; exact absurd hm (Nat.not_lt_zero _)
            | succ fu ih4 =>
              intro y hy hm
              refine r_iload X eX6_layNumber_47 rfl ?_
              refine r_aload_n X eX6_layNumber_49 rfl ?_
              refine gf_X6_49 X eX6_layNumber_50 (by omega) m0_w1 ?_
              refine r_icmp_ge (tgt := 115) X eX6_layNumber_53 (by decide) (nI_toInt (by omega)) (nI_toInt (by omega)) (fun c_5 => ?_) (fun c_5 => ?_)
              ·
                refine r_iload_n X eX6_layNumber_115 rfl ?_
                exact ret _ _ _ _ _ eX6_layNumber_116 (bI_or _) (⟨bI_ext (by rw [show y = hg by omega]), se1, ⟨m0_w1, m1_w1, m2_w1, m3_w1, m4_w1, m5_w1, m6_w1, m7_w1, m8_w1, m9_w1, m10_w1⟩, fun l hl => hz l (by omega) hl, fr_w1⟩)
              ·
                have hdy := dg_lt m hg y
                have hdz := dg_lt m hg (y - 1)
                refine r_iload_n X eX6_layNumber_56 rfl ?_
                refine r_ifeq_b (tgt := 107) X eX6_layNumber_57 (by decide) (fun c_6 => ?_) (fun c_6 => ?_)
                ·
                  refine r_iconst X eX6_layNumber_107 (nI 0) (by decide) ?_
                  refine r_top (y := bI (qN m hg wd (y + 1))) (bI_f (fun q => c_6 (qN_dn q))) ?_
                  refine r_istore_n X eX6_layNumber_108 (Nat.le_of_ble_eq_true rfl) (L2 := [some (.ref (b + 77)), some (.int (nI m)), some (.int (nI d)), some (.int (bI (qN m hg wd (y + 1)))), some (.int (nI y))]) rfl ?_
                  refine r_iinc X eX6_layNumber_109 rfl (nI (y + 1)) (inc_nI _) (L2 := [some (.ref (b + 77)), some (.int (nI m)), some (.int (nI d)), some (.int (bI (qN m hg wd (y + 1)))), some (.int (nI (y + 1)))]) rfl ?_
                  refine r_goto (tgt := 47) X eX6_layNumber_112 (by decide) ?_
                  exact ih4 (y + 1)  (by omega)  (by omega)
                ·
                  refine r_aload_n X eX6_layNumber_60 rfl ?_
                  refine gf_X6_32 X eX6_layNumber_61 (by omega) m0_w1 ?_
                  refine r_iload X eX6_layNumber_64 rfl ?_
                  refine r_iald X eX6_layNumber_66 (by omega) m8_w1 (by omega) (by decide) ?_
                  refine r_top (y := nI (dg m hg y)) (hz y (by omega) (by omega)) ?_
                  refine r_aload_n X eX6_layNumber_67 rfl ?_
                  refine gf_X6_45 X eX6_layNumber_68 (by omega) m0_w1 ?_
                  refine r_icmp_ge (tgt := 107) X eX6_layNumber_71 (by decide) (nI_toInt (by omega)) (nI_toInt (by omega)) (fun c_7 => ?_) (fun c_7 => ?_)
                  ·
                    refine r_iconst X eX6_layNumber_107 (nI 0) (by decide) ?_
                    refine r_top (y := bI (qN m hg wd (y + 1))) (bI_f (fun q => absurd (q.2.1 y (by omega)) (by omega))) ?_
                    refine r_istore_n X eX6_layNumber_108 (Nat.le_of_ble_eq_true rfl) (L2 := [some (.ref (b + 77)), some (.int (nI m)), some (.int (nI d)), some (.int (bI (qN m hg wd (y + 1)))), some (.int (nI y))]) rfl ?_
                    refine r_iinc X eX6_layNumber_109 rfl (nI (y + 1)) (inc_nI _) (L2 := [some (.ref (b + 77)), some (.int (nI m)), some (.int (nI d)), some (.int (bI (qN m hg wd (y + 1)))), some (.int (nI (y + 1)))]) rfl ?_
                    refine r_goto (tgt := 47) X eX6_layNumber_112 (by decide) ?_
                    exact ih4 (y + 1)  (by omega)  (by omega)
                  ·
                    refine r_iload X eX6_layNumber_74 rfl ?_
                    refine r_if_eq (tgt := 103) X eX6_layNumber_76 (by decide) (nI_toInt (by omega)) (fun c_8 => ?_) (fun c_8 => ?_)
                    ·
                      refine r_iconst X eX6_layNumber_103 (nI 1) (by decide) ?_
                      refine r_goto (tgt := 108) X eX6_layNumber_104 (by decide) ?_
                      refine r_top (y := bI (qN m hg wd (y + 1))) (bI_t (qN_t c_6 (by omega) (fun h0 => by omega))) ?_
                      refine r_istore_n X eX6_layNumber_108 (Nat.le_of_ble_eq_true rfl) (L2 := [some (.ref (b + 77)), some (.int (nI m)), some (.int (nI d)), some (.int (bI (qN m hg wd (y + 1)))), some (.int (nI y))]) rfl ?_
                      refine r_iinc X eX6_layNumber_109 rfl (nI (y + 1)) (inc_nI _) (L2 := [some (.ref (b + 77)), some (.int (nI m)), some (.int (nI d)), some (.int (bI (qN m hg wd (y + 1)))), some (.int (nI (y + 1)))]) rfl ?_
                      refine r_goto (tgt := 47) X eX6_layNumber_112 (by decide) ?_
                      exact ih4 (y + 1)  (by omega)  (by omega)
                    ·
                      refine r_aload_n X eX6_layNumber_79 rfl ?_
                      refine gf_X6_32 X eX6_layNumber_80 (by omega) m0_w1 ?_
                      refine r_iload X eX6_layNumber_83 rfl ?_
                      refine r_iald X eX6_layNumber_85 (by omega) m8_w1 (by omega) (by decide) ?_
                      refine r_top (y := nI (dg m hg y)) (hz y (by omega) (by omega)) ?_
                      refine r_aload_n X eX6_layNumber_86 rfl ?_
                      refine gf_X6_32 X eX6_layNumber_87 (by omega) m0_w1 ?_
                      refine r_iload X eX6_layNumber_90 rfl ?_
                      refine r_iconst X eX6_layNumber_92 (nI 1) (by decide) ?_
                      refine r_isub X eX6_layNumber_93 (nI (y - 1)) (pk_sub (by omega)) ?_
                      refine r_iald X eX6_layNumber_94 (by omega) m8_w1 (by omega) (by decide) ?_
                      refine r_top (y := nI (dg m hg (y - 1))) (hz (y - 1) (by omega) (by omega)) ?_
                      refine r_isub X eX6_layNumber_95 (nI (dg m hg y) - nI (dg m hg (y - 1))) rfl ?_
                      refine cp_X6_65 X eX6_layNumber_96 (c_X6_size _ G b N w1 (nI (dg m hg y) - nI (dg m hg (y - 1)))) (by decide) rfl (Nat.le_of_ble_eq_true rfl) ?_
                      refine r_iconst X eX6_layNumber_99 (nI 1) (by decide) ?_
                      refine r_icmp_gt (tgt := 107) X eX6_layNumber_100 (by decide) (iab_sub (by omega) (by omega)) (nI_toInt (by omega)) (fun c_9 => ?_) (fun c_9 => ?_)
                      ·
                        refine r_iconst X eX6_layNumber_107 (nI 0) (by decide) ?_
                        refine r_top (y := bI (qN m hg wd (y + 1))) (bI_f (fun q => absurd (q.2.2 (y - 1) (by omega)) (by rw [show y - 1 + 1 = y by omega]; omega))) ?_
                        refine r_istore_n X eX6_layNumber_108 (Nat.le_of_ble_eq_true rfl) (L2 := [some (.ref (b + 77)), some (.int (nI m)), some (.int (nI d)), some (.int (bI (qN m hg wd (y + 1)))), some (.int (nI y))]) rfl ?_
                        refine r_iinc X eX6_layNumber_109 rfl (nI (y + 1)) (inc_nI _) (L2 := [some (.ref (b + 77)), some (.int (nI m)), some (.int (nI d)), some (.int (bI (qN m hg wd (y + 1)))), some (.int (nI (y + 1)))]) rfl ?_
                        refine r_goto (tgt := 47) X eX6_layNumber_112 (by decide) ?_
                        exact ih4 (y + 1)  (by omega)  (by omega)
                      ·
                        refine r_iconst X eX6_layNumber_103 (nI 1) (by decide) ?_
                        refine r_goto (tgt := 108) X eX6_layNumber_104 (by decide) ?_
                        refine r_top (y := bI (qN m hg wd (y + 1))) (bI_t (qN_t c_6 (by omega) (fun h0 => by omega))) ?_
                        refine r_istore_n X eX6_layNumber_108 (Nat.le_of_ble_eq_true rfl) (L2 := [some (.ref (b + 77)), some (.int (nI m)), some (.int (nI d)), some (.int (bI (qN m hg wd (y + 1)))), some (.int (nI y))]) rfl ?_
                        refine r_iinc X eX6_layNumber_109 rfl (nI (y + 1)) (inc_nI _) (L2 := [some (.ref (b + 77)), some (.int (nI m)), some (.int (nI d)), some (.int (bI (qN m hg wd (y + 1)))), some (.int (nI (y + 1)))]) rfl ?_
                        refine r_goto (tgt := 47) X eX6_layNumber_112 (by decide) ?_
                        exact ih4 (y + 1)  (by omega)  (by omega)
          exact lp4 _ 0  (by omega)  (Nat.lt_succ_self _)
        ·
          refine r_iconst X eX6_layNumber_38 (nI 1) (by decide) ?_
          refine r_goto (tgt := 43) X eX6_layNumber_39 (by decide) ?_
          refine r_top (y := bI (qN m hg wd 0)) (bI_t ⟨by omega, fun l hl => absurd hl (by omega), fun l hl => absurd hl (by omega)⟩) ?_
          refine r_istore_n X eX6_layNumber_43 (Nat.le_of_ble_eq_true rfl) (L2 := [some (.ref (b + 77)), some (.int (nI m)), some (.int (nI d)), some (.int (bI (qN m hg wd 0))), none]) rfl ?_
          refine r_iconst X eX6_layNumber_44 (nI 0) (by decide) ?_
          refine r_istore X eX6_layNumber_45 (Nat.le_of_ble_eq_true rfl) (L2 := [some (.ref (b + 77)), some (.int (nI m)), some (.int (nI d)), some (.int (bI (qN m hg wd 0))), some (.int (nI 0))]) rfl ?_
          have lp10 : ∀ (fu : Nat) (y : Nat), (y ≤ hg) → hg - y < fu → V κ G b (N, 0, 0) w1 47 [some (.ref (b + 77)), some (.int (nI m)), some (.int (nI d)), some (.int (bI (qN m hg wd y))), some (.int (nI y))] [] := by
            intro fu
            induction fu with
            | zero => intro y hy hm; exact absurd hm (Nat.not_lt_zero _)
            | succ fu ih10 =>
              intro y hy hm
              refine r_iload X eX6_layNumber_47 rfl ?_
              refine r_aload_n X eX6_layNumber_49 rfl ?_
              refine gf_X6_49 X eX6_layNumber_50 (by omega) m0_w1 ?_
              refine r_icmp_ge (tgt := 115) X eX6_layNumber_53 (by decide) (nI_toInt (by omega)) (nI_toInt (by omega)) (fun c_11 => ?_) (fun c_11 => ?_)
              ·
                refine r_iload_n X eX6_layNumber_115 rfl ?_
                exact ret _ _ _ _ _ eX6_layNumber_116 (bI_or _) (⟨bI_ext (by rw [show y = hg by omega]), se1, ⟨m0_w1, m1_w1, m2_w1, m3_w1, m4_w1, m5_w1, m6_w1, m7_w1, m8_w1, m9_w1, m10_w1⟩, fun l hl => hz l (by omega) hl, fr_w1⟩)
              ·
                have hdy := dg_lt m hg y
                have hdz := dg_lt m hg (y - 1)
                refine r_iload_n X eX6_layNumber_56 rfl ?_
                refine r_ifeq_b (tgt := 107) X eX6_layNumber_57 (by decide) (fun c_12 => ?_) (fun c_12 => ?_)
                ·
                  refine r_iconst X eX6_layNumber_107 (nI 0) (by decide) ?_
                  refine r_top (y := bI (qN m hg wd (y + 1))) (bI_f (fun q => c_12 (qN_dn q))) ?_
                  refine r_istore_n X eX6_layNumber_108 (Nat.le_of_ble_eq_true rfl) (L2 := [some (.ref (b + 77)), some (.int (nI m)), some (.int (nI d)), some (.int (bI (qN m hg wd (y + 1)))), some (.int (nI y))]) rfl ?_
                  refine r_iinc X eX6_layNumber_109 rfl (nI (y + 1)) (inc_nI _) (L2 := [some (.ref (b + 77)), some (.int (nI m)), some (.int (nI d)), some (.int (bI (qN m hg wd (y + 1)))), some (.int (nI (y + 1)))]) rfl ?_
                  refine r_goto (tgt := 47) X eX6_layNumber_112 (by decide) ?_
                  exact ih10 (y + 1)  (by omega)  (by omega)
                ·
                  refine r_aload_n X eX6_layNumber_60 rfl ?_
                  refine gf_X6_32 X eX6_layNumber_61 (by omega) m0_w1 ?_
                  refine r_iload X eX6_layNumber_64 rfl ?_
                  refine r_iald X eX6_layNumber_66 (by omega) m8_w1 (by omega) (by decide) ?_
                  refine r_top (y := nI (dg m hg y)) (hz y (by omega) (by omega)) ?_
                  refine r_aload_n X eX6_layNumber_67 rfl ?_
                  refine gf_X6_45 X eX6_layNumber_68 (by omega) m0_w1 ?_
                  refine r_icmp_ge (tgt := 107) X eX6_layNumber_71 (by decide) (nI_toInt (by omega)) (nI_toInt (by omega)) (fun c_13 => ?_) (fun c_13 => ?_)
                  ·
                    refine r_iconst X eX6_layNumber_107 (nI 0) (by decide) ?_
                    refine r_top (y := bI (qN m hg wd (y + 1))) (bI_f (fun q => absurd (q.2.1 y (by omega)) (by omega))) ?_
                    refine r_istore_n X eX6_layNumber_108 (Nat.le_of_ble_eq_true rfl) (L2 := [some (.ref (b + 77)), some (.int (nI m)), some (.int (nI d)), some (.int (bI (qN m hg wd (y + 1)))), some (.int (nI y))]) rfl ?_
                    refine r_iinc X eX6_layNumber_109 rfl (nI (y + 1)) (inc_nI _) (L2 := [some (.ref (b + 77)), some (.int (nI m)), some (.int (nI d)), some (.int (bI (qN m hg wd (y + 1)))), some (.int (nI (y + 1)))]) rfl ?_
                    refine r_goto (tgt := 47) X eX6_layNumber_112 (by decide) ?_
                    exact ih10 (y + 1)  (by omega)  (by omega)
                  ·
                    refine r_iload X eX6_layNumber_74 rfl ?_
                    refine r_if_eq (tgt := 103) X eX6_layNumber_76 (by decide) (nI_toInt (by omega)) (fun c_14 => ?_) (fun c_14 => ?_)
                    ·
                      refine r_iconst X eX6_layNumber_103 (nI 1) (by decide) ?_
                      refine r_goto (tgt := 108) X eX6_layNumber_104 (by decide) ?_
                      refine r_top (y := bI (qN m hg wd (y + 1))) (bI_t (qN_t c_12 (by omega) (fun h0 => by omega))) ?_
                      refine r_istore_n X eX6_layNumber_108 (Nat.le_of_ble_eq_true rfl) (L2 := [some (.ref (b + 77)), some (.int (nI m)), some (.int (nI d)), some (.int (bI (qN m hg wd (y + 1)))), some (.int (nI y))]) rfl ?_
                      refine r_iinc X eX6_layNumber_109 rfl (nI (y + 1)) (inc_nI _) (L2 := [some (.ref (b + 77)), some (.int (nI m)), some (.int (nI d)), some (.int (bI (qN m hg wd (y + 1)))), some (.int (nI (y + 1)))]) rfl ?_
                      refine r_goto (tgt := 47) X eX6_layNumber_112 (by decide) ?_
                      exact ih10 (y + 1)  (by omega)  (by omega)
                    ·
                      refine r_aload_n X eX6_layNumber_79 rfl ?_
                      refine gf_X6_32 X eX6_layNumber_80 (by omega) m0_w1 ?_
                      refine r_iload X eX6_layNumber_83 rfl ?_
                      refine r_iald X eX6_layNumber_85 (by omega) m8_w1 (by omega) (by decide) ?_
                      refine r_top (y := nI (dg m hg y)) (hz y (by omega) (by omega)) ?_
                      refine r_aload_n X eX6_layNumber_86 rfl ?_
                      refine gf_X6_32 X eX6_layNumber_87 (by omega) m0_w1 ?_
                      refine r_iload X eX6_layNumber_90 rfl ?_
                      refine r_iconst X eX6_layNumber_92 (nI 1) (by decide) ?_
                      refine r_isub X eX6_layNumber_93 (nI (y - 1)) (pk_sub (by omega)) ?_
                      refine r_iald X eX6_layNumber_94 (by omega) m8_w1 (by omega) (by decide) ?_
                      refine r_top (y := nI (dg m hg (y - 1))) (hz (y - 1) (by omega) (by omega)) ?_
                      refine r_isub X eX6_layNumber_95 (nI (dg m hg y) - nI (dg m hg (y - 1))) rfl ?_
                      refine cp_X6_65 X eX6_layNumber_96 (c_X6_size _ G b N w1 (nI (dg m hg y) - nI (dg m hg (y - 1)))) (by decide) rfl (Nat.le_of_ble_eq_true rfl) ?_
                      refine r_iconst X eX6_layNumber_99 (nI 1) (by decide) ?_
                      refine r_icmp_gt (tgt := 107) X eX6_layNumber_100 (by decide) (iab_sub (by omega) (by omega)) (nI_toInt (by omega)) (fun c_15 => ?_) (fun c_15 => ?_)
                      ·
                        refine r_iconst X eX6_layNumber_107 (nI 0) (by decide) ?_
                        refine r_top (y := bI (qN m hg wd (y + 1))) (bI_f (fun q => absurd (q.2.2 (y - 1) (by omega)) (by rw [show y - 1 + 1 = y by omega]; omega))) ?_
                        refine r_istore_n X eX6_layNumber_108 (Nat.le_of_ble_eq_true rfl) (L2 := [some (.ref (b + 77)), some (.int (nI m)), some (.int (nI d)), some (.int (bI (qN m hg wd (y + 1)))), some (.int (nI y))]) rfl ?_
                        refine r_iinc X eX6_layNumber_109 rfl (nI (y + 1)) (inc_nI _) (L2 := [some (.ref (b + 77)), some (.int (nI m)), some (.int (nI d)), some (.int (bI (qN m hg wd (y + 1)))), some (.int (nI (y + 1)))]) rfl ?_
                        refine r_goto (tgt := 47) X eX6_layNumber_112 (by decide) ?_
                        exact ih10 (y + 1)  (by omega)  (by omega)
                      ·
                        refine r_iconst X eX6_layNumber_103 (nI 1) (by decide) ?_
                        refine r_goto (tgt := 108) X eX6_layNumber_104 (by decide) ?_
                        refine r_top (y := bI (qN m hg wd (y + 1))) (bI_t (qN_t c_12 (by omega) (fun h0 => by omega))) ?_
                        refine r_istore_n X eX6_layNumber_108 (Nat.le_of_ble_eq_true rfl) (L2 := [some (.ref (b + 77)), some (.int (nI m)), some (.int (nI d)), some (.int (bI (qN m hg wd (y + 1)))), some (.int (nI y))]) rfl ?_
                        refine r_iinc X eX6_layNumber_109 rfl (nI (y + 1)) (inc_nI _) (L2 := [some (.ref (b + 77)), some (.int (nI m)), some (.int (nI d)), some (.int (bI (qN m hg wd (y + 1)))), some (.int (nI (y + 1)))]) rfl ?_
                        refine r_goto (tgt := 47) X eX6_layNumber_112 (by decide) ?_
                        exact ih10 (y + 1)  (by omega)  (by omega)
          exact lp10 _ 0  (by omega)  (Nat.lt_succ_self _)
      ·
        rw [nP_pos (show 0 < t by omega)]
        refine r_aload_n X eX6_layNumber_13 rfl ?_
        refine gf_X6_32 X eX6_layNumber_14 (by omega) m0_w1 ?_
        refine r_iload_n X eX6_layNumber_17 rfl ?_
        refine r_iload_n X eX6_layNumber_18 rfl ?_
        refine r_bipush X eX6_layNumber_19 (nI 10) (by decide) ?_
        refine r_irem X eX6_layNumber_21 (nI_ne0 (by omega) (by omega)) (nI (d % 10)) (pk_rem (by omega) (by omega) (by omega)) ?_
        refine r_iast X eX6_layNumber_22 (by omega) m8_w1 (by omega) (by decide) (fun w16 n16_w16 uu16 => ?_)
        have m0_w16 := (uu16 77 (by omega)).trans m0_w1
        have m1_w16 := (uu16 78 (by omega)).trans m1_w1
        have m2_w16 := (uu16 79 (by omega)).trans m2_w1
        have m3_w16 := (uu16 80 (by omega)).trans m3_w1
        have m4_w16 := (uu16 81 (by omega)).trans m4_w1
        have m5_w16 := (uu16 82 (by omega)).trans m5_w1
        have m6_w16 := (uu16 83 (by omega)).trans m6_w1
        have m7_w16 := (uu16 84 (by omega)).trans m7_w1
        have m9_w16 := (uu16 86 (by omega)).trans m9_w1
        have m10_w16 := (uu16 87 (by omega)).trans m10_w1
        have fr_w16 : ∀ j, (j < 77 ∨ 88 ≤ j) → w16 j = w j := fun j hj => (uu16 j (by omega)).trans (fr_w1 j hj)
        refine r_iload_n X eX6_layNumber_23 rfl ?_
        refine r_bipush X eX6_layNumber_24 (nI 10) (by decide) ?_
        refine r_idiv X eX6_layNumber_26 (nI_ne0 (by omega) (by omega)) (nI (d / 10)) (pk_div (by omega) (by omega) (by omega)) ?_
        refine r_istore_n X eX6_layNumber_27 (Nat.le_of_ble_eq_true rfl) (L2 := [some (.ref (b + 77)), some (.int (nI m)), some (.int (nI (d / 10))), some (.int (nI (t - 1))), none]) rfl ?_
        refine r_iinc X eX6_layNumber_28 rfl (nP (t - 1)) (dec_nI _) (L2 := [some (.ref (b + 77)), some (.int (nI m)), some (.int (nI (d / 10))), some (.int (nP (t - 1))), none]) rfl ?_
        refine r_goto (tgt := 9) X eX6_layNumber_31 (by decide) ?_
        exact ih1 (t - 1) (d / 10) (upd se1 (t - 1) (nI (d % 10))) w16 (by omega) (div_st (by omega) ht hd) (by omega) (fun l h1 h2 => upd_dn (by omega) (dg_st (by omega) ht hd) hz h1 h2) m0_w16 m1_w16 m2_w16 m3_w16 m4_w16 m5_w16 m6_w16 m7_w16 n16_w16 m9_w16 m10_w16 fr_w16 (by omega)
  exact lp1 _ hg m se w (Nat.le_refl _) (by rw [Nat.sub_self, Nat.pow_zero, Nat.div_one]) hm31 (fun l h1 h2 => absurd h1 (by omega)) m0 m1 m2 m3 m4 m5 m6 m7 m8 m9 m10 fr_w (Nat.lt_succ_self _)
set_option maxHeartbeats 4000000 in
set_option maxRecDepth 100000 in
theorem c_X6_cost (l : Launch) (G : Gs) (b N : Nat) (w : Wd) (hN : 88 ≤ N) (lw : Nat) (P : Pc) (n : Nat) (sg : Nat → Int32) (im : Nat → Nat × Pc) (kf : Nat → Int32) (hs : sysM G b w (lw, P, n, sg, im, kf)) (hkb : ∀ i, i < 2 → kf i = 0 ∨ kf i = 1) (way m : Int32) : CI l yX6_cost cX6_cost 5 (some .int) 7 G b N w [.ref (b + 77), .int way, .int m] (fun r w2 => r = aCost lw P way m ∧ sysM G b w2 (lw, P, n, sg, im, kf) ∧ ∀ j, (j < 77 ∨ 88 ≤ j) → w2 j = w j) := by
  obtain ⟨wd, hg, sc, kc, bc, bo, ag, bk, st, ims, gr, mk, rs, se, tt, tc, ⟨m0, m1, m2, m3, m4, m5, m6, m7, m8, m9, m10⟩, hst, himg, hn8⟩ := id hs
  dsimp only at m0 m3 m4 hst himg hn8
  obtain ⟨s1, e1, e2, e3, hP, hlw⟩ := id hst
  obtain ⟨o1, o2, o3, o4⟩ := id hP
  refine CI_of (L0 := [some (.ref (b + 77)), some (.int way), some (.int m), none, none]) (by decide) rfl (by simp [Value.category]) rfl (Nat.le_of_ble_eq_true rfl) rfl (fun κ X ret => ?_)
  have fr_w : ∀ j, (j < 77 ∨ 88 ≤ j) → w j = w j := fun _ _ => rfl
  refine r_iload_n X eX6_cost_0 rfl ?_
  refine cp_X6_144 X eX6_cost_1 (c_X6_isWay _ G b N w way) (by decide) rfl (Nat.le_of_ble_eq_true rfl) ?_
  refine r_ifeq_b (tgt := 11) X eX6_cost_4 (by decide) (fun c_1 => ?_) (fun c_1 => ?_)
  ·
    refine r_bipush X eX6_cost_11 ((-2 : Int32)) (by decide) ?_
    exact ret _ _ _ _ _ eX6_cost_13 (⟨(if_neg (fun q => c_1 q.1)).symm, ⟨_, _, _, _, _, _, _, _, _, _, _, _, _, _, _, _, ⟨m0, m1, m2, m3, m4, m5, m6, m7, m8, m9, m10⟩, hst, himg, hn8⟩, fr_w⟩)
  ·
    refine r_iload_n X eX6_cost_7 rfl ?_
    refine r_if_ge (tgt := 14) X eX6_cost_8 (by decide) rfl (fun c_2 => ?_) (fun c_2 => ?_)
    ·
      obtain ⟨nw, hnw, rfl, hi_nw⟩ := i2n (x := way) (by omega)
      obtain ⟨nm, hnm, rfl, hi_nm⟩ := i2n (x := m) (by omega)
      have hpos := hP.pos nw
      refine r_aload_n X eX6_cost_14 rfl ?_
      refine cv_X6_124 X eX6_cost_15 (c_X6_take _ G b N w hN n wd hg sc kc bc bo ag bk st ims kf sg gr mk rs se tt tc ⟨m0, m1, m2, m3, m4, m5, m6, m7, m8, m9, m10⟩ P.1 P.2.1 e1 e2) (by decide) (by omega) m0 rfl (Nat.le_of_ble_eq_true rfl) (fun w3 hp3 => ?_)
      obtain ⟨gr2, mk2, ⟨y0K, y1K, y2K, y3K, y4K, y5K, y6K, y7K, y8K, y9K, y10K⟩, hgk, gK⟩ := hp3
      have m4_w3 : w3 77 = .inr (6, [.ref (b + 78), .ref (b + 79), .ref (b + 80), .ref (b + 81), .int (nI n), .ref (b + 82), .ref (b + 83), .int (nI P.1), .int (nI P.2.1), .ref (b + 84), .ref (b + 85), .int sc, .int kc, .int bc, .int bo, .int ag, .int bk, .ref (b + 86), .ref (b + 87)]) := y0K
      have m5_w3 : w3 78 = aI G 131 st := y1K
      have m6_w3 : w3 79 = aI G 262 ims := y2K
      have m7_w3 : w3 80 = aZ G 2 kf := y3K
      have m8_w3 : w3 81 = aI G 80 sg := y4K
      have m9_w3 : w3 82 = aI G 64 gr2 := y5K
      have m10_w3 : w3 83 = aI G 64 mk2 := y6K
      have m11_w3 : w3 84 = aI G 64 rs := y7K
      have m12_w3 : w3 85 = aI G 8 se := y8K
      have m13_w3 : w3 86 = aI G 6272 tt := y9K
      have m14_w3 : w3 87 = aI G 49 tc := y10K
      have fr_w3 : ∀ j, (j < 77 ∨ 88 ≤ j) → w3 j = w j := fun j hj => (gK j (by omega)).trans (fr_w j hj)
      have hag := stI_ag hst hgk
      refine r_iload_n X eX6_cost_18 rfl ?_
      refine r_iconst X eX6_cost_19 (nI 1) (by decide) ?_
      refine r_icmp_ne (tgt := 27) X eX6_cost_20 (by decide) (nI_toInt (by omega)) (nI_toInt (by omega)) (fun c_15 => ?_) (fun c_15 => ?_)
      ·
        obtain rfl : nw = 0 := by omega
        have hnl0 : nlP P 0 = P.2.1 := rfl
        have hnl1 : nlP P 1 = P.1 := rfl
        have hnb0 : nbP P 0 = P.1 := rfl
        have hnb1 : nbP P 1 = P.2.1 := rfl
        refine r_aload_n X eX6_cost_27 rfl ?_
        refine r_iload_n X eX6_cost_28 rfl ?_
        refine cv_X6_147 X eX6_cost_29 (c_X6_layNumber _ G b N w3 hN n P.1 P.2.1 sc kc bc bo ag bk st ims kf sg gr2 mk2 rs se tt tc ⟨m4_w3, m5_w3, m6_w3, m7_w3, m8_w3, m9_w3, m10_w3, m11_w3, m12_w3, m13_w3, m14_w3⟩ (by omega) (by omega) (by omega) (by omega) nm hnm) (by decide) (by omega) m4_w3 rfl (Nat.le_of_ble_eq_true rfl) (fun r16 w16 hp16 => ?_)
        obtain ⟨roN, ⟨se2, ⟨y0N, y1N, y2N, y3N, y4N, y5N, y6N, y7N, y8N, y9N, y10N⟩, hse, gN⟩⟩ := hp16
        have m17_w16 : w16 77 = .inr (6, [.ref (b + 78), .ref (b + 79), .ref (b + 80), .ref (b + 81), .int (nI n), .ref (b + 82), .ref (b + 83), .int (nI P.1), .int (nI P.2.1), .ref (b + 84), .ref (b + 85), .int sc, .int kc, .int bc, .int bo, .int ag, .int bk, .ref (b + 86), .ref (b + 87)]) := y0N
        have m18_w16 : w16 78 = aI G 131 st := y1N
        have m19_w16 : w16 79 = aI G 262 ims := y2N
        have m20_w16 : w16 80 = aZ G 2 kf := y3N
        have m21_w16 : w16 81 = aI G 80 sg := y4N
        have m22_w16 : w16 82 = aI G 64 gr2 := y5N
        have m23_w16 : w16 83 = aI G 64 mk2 := y6N
        have m24_w16 : w16 84 = aI G 64 rs := y7N
        have m25_w16 : w16 85 = aI G 8 se2 := y8N
        have m26_w16 : w16 86 = aI G 6272 tt := y9N
        have m27_w16 : w16 87 = aI G 49 tc := y10N
        have fr_w16 : ∀ j, (j < 77 ∨ 88 ≤ j) → w16 j = w j := fun j hj => (gN j (by omega)).trans (fr_w3 j hj)
        rw [roN]
        refine r_ifne_b (tgt := 38) X eX6_cost_32 (by decide) (fun c_28 => ?_) (fun c_28 => ?_)
        ·
          have hq := c_28
          refine r_iconst X eX6_cost_38 ((0 : Int32)) (by decide) ?_
          refine r_istore_n X eX6_cost_39 (Nat.le_of_ble_eq_true rfl) (L2 := [some (.ref (b + 77)), some (.int (nI 0)), some (.int (nI nm)), some (.int ((0 : Int32))), none]) rfl ?_
          refine r_iconst X eX6_cost_40 (nI 0) (by decide) ?_
          refine r_istore X eX6_cost_41 (Nat.le_of_ble_eq_true rfl) (L2 := [some (.ref (b + 77)), some (.int (nI 0)), some (.int (nI nm)), some (.int ((0 : Int32))), some (.int (nI 0))]) rfl ?_
          have lp29 : ∀ (fu : Nat) (y : Nat) (c : Int32), (y ≤ P.2.1) → (c = sm (fun l => coS lw P.1 P.2.1 (mv gr2) (mv mk2) l (dg nm P.2.1 l) (dg nm P.2.1 (l - 1))) y) → P.2.1 - y < fu → V κ G b (N, 0, 0) w16 43 [some (.ref (b + 77)), some (.int (nI 0)), some (.int (nI nm)), some (.int c), some (.int (nI y))] [] := by
            intro fu
            induction fu with
            | zero => intro y c hy hc hm; exact absurd hm (Nat.not_lt_zero _)
            | succ fu ih29 =>
              intro y c hy hc hm
              refine r_iload X eX6_cost_43 rfl ?_
              refine r_aload_n X eX6_cost_45 rfl ?_
              refine gf_X6_49 X eX6_cost_46 (by omega) m17_w16 ?_
              refine r_icmp_ge (tgt := 92) X eX6_cost_49 (by decide) (nI_toInt (by omega)) (nI_toInt (by omega)) (fun c_30 => ?_) (fun c_30 => ?_)
              ·
                refine r_iload_n X eX6_cost_92 rfl ?_
                refine r_sipush X eX6_cost_93 ((10000 : Int32)) (by decide) ?_
                refine r_iadd X eX6_cost_96 (c + ((10000 : Int32))) rfl ?_
                exact ret _ _ _ _ _ eX6_cost_97 (⟨by rw [aCost, if_pos ⟨c_1, by omega⟩, tn_nI hnw, tn_nI hnm, if_pos (show okN nm (nlP P 0) (nbP P 0) from c_28), hc, costN]; exact congrArg (fun z => z + (10000 : Int32)) ((sm_eq (show y = P.2.1 by omega)).trans (sm_congr (fun l hl => agG_c (way := 0) hag l _ _ hl (hq.2.1 l hl) (hq.2.1 (l - 1) (by have : l < P.2.1 := hl; omega))))), ⟨_, _, _, _, _, _, _, _, _, _, _, _, _, _, _, _, ⟨m17_w16, m18_w16, m19_w16, m20_w16, m21_w16, m22_w16, m23_w16, m24_w16, m25_w16, m26_w16, m27_w16⟩, hst, himg, hn8⟩, fr_w16⟩)
              ·
                refine r_iload_n X eX6_cost_52 rfl ?_
                refine r_aload_n X eX6_cost_53 rfl ?_
                refine r_aload_n X eX6_cost_54 rfl ?_
                refine gf_X6_32 X eX6_cost_55 (by omega) m17_w16 ?_
                refine r_iload X eX6_cost_58 rfl ?_
                refine r_iald X eX6_cost_60 (by omega) m25_w16 (by omega) (by decide) ?_
                have hqy := hq.2.1 y (by omega)
                have hqz := hq.2.1 (y - 1) (by omega)
                refine r_top (y := nI (dg nm P.2.1 y)) (hse y (by omega)) ?_
                refine r_iload X eX6_cost_61 rfl ?_
                refine r_aload_n X eX6_cost_63 rfl ?_
                refine gf_X6_32 X eX6_cost_64 (by omega) m17_w16 ?_
                refine r_iload X eX6_cost_67 rfl ?_
                refine r_if_le (tgt := 79) X eX6_cost_69 (by decide) (nI_toInt (by omega)) (fun c_31 => ?_) (fun c_31 => ?_)
                ·
                  refine r_iconst X eX6_cost_79 (nI 0) (by decide) ?_
                  refine r_iald X eX6_cost_80 (by omega) m25_w16 (by omega) (by decide) ?_
                  refine r_top (y := nI (dg nm P.2.1 (y - 1))) (by rw [show y - 1 = 0 by omega]; exact hse 0 (by omega)) ?_
                  refine cp_X6_87 X eX6_cost_81 (c_X6_costOf _ G b N w16 hN n P.1 P.2.1 sc kc bc bo ag bk st ims kf sg gr2 mk2 rs se2 tt tc ⟨m17_w16, m18_w16, m19_w16, m20_w16, m21_w16, m22_w16, m23_w16, m24_w16, m25_w16, m26_w16, m27_w16⟩ (dg nm P.2.1 y) y hqy (by omega) (by omega) (by omega) lw hlw e3 (dg nm P.2.1 (y - 1)) (by omega)) (by decide) (by omega) m17_w16 rfl (Nat.le_of_ble_eq_true rfl) ?_
                  refine r_iadd X eX6_cost_84 (c + (coS lw P.1 P.2.1 (mv gr2) (mv mk2) y (dg nm P.2.1 y) (dg nm P.2.1 (y - 1)))) rfl ?_
                  refine r_istore_n X eX6_cost_85 (Nat.le_of_ble_eq_true rfl) (L2 := [some (.ref (b + 77)), some (.int (nI 0)), some (.int (nI nm)), some (.int (c + (coS lw P.1 P.2.1 (mv gr2) (mv mk2) y (dg nm P.2.1 y) (dg nm P.2.1 (y - 1))))), some (.int (nI y))]) rfl ?_
                  refine r_iinc X eX6_cost_86 rfl (nI (y + 1)) (inc_nI _) (L2 := [some (.ref (b + 77)), some (.int (nI 0)), some (.int (nI nm)), some (.int (c + (coS lw P.1 P.2.1 (mv gr2) (mv mk2) y (dg nm P.2.1 y) (dg nm P.2.1 (y - 1))))), some (.int (nI (y + 1)))]) rfl ?_
                  refine r_goto (tgt := 43) X eX6_cost_89 (by decide) ?_
                  exact ih29 (y + 1) (c + (coS lw P.1 P.2.1 (mv gr2) (mv mk2) y (dg nm P.2.1 y) (dg nm P.2.1 (y - 1))))  (by omega) (by rw [hc, sm])  (by omega)
                ·
                  refine r_iload X eX6_cost_72 rfl ?_
                  refine r_iconst X eX6_cost_74 (nI 1) (by decide) ?_
                  refine r_isub X eX6_cost_75 (nI (y - 1)) (pk_sub (by omega)) ?_
                  refine r_goto (tgt := 80) X eX6_cost_76 (by decide) ?_
                  refine r_iald X eX6_cost_80 (by omega) m25_w16 (by omega) (by decide) ?_
                  refine r_top (y := nI (dg nm P.2.1 (y - 1))) (hse (y - 1) (by omega)) ?_
                  refine cp_X6_87 X eX6_cost_81 (c_X6_costOf _ G b N w16 hN n P.1 P.2.1 sc kc bc bo ag bk st ims kf sg gr2 mk2 rs se2 tt tc ⟨m17_w16, m18_w16, m19_w16, m20_w16, m21_w16, m22_w16, m23_w16, m24_w16, m25_w16, m26_w16, m27_w16⟩ (dg nm P.2.1 y) y hqy (by omega) (by omega) (by omega) lw hlw e3 (dg nm P.2.1 (y - 1)) (by omega)) (by decide) (by omega) m17_w16 rfl (Nat.le_of_ble_eq_true rfl) ?_
                  refine r_iadd X eX6_cost_84 (c + (coS lw P.1 P.2.1 (mv gr2) (mv mk2) y (dg nm P.2.1 y) (dg nm P.2.1 (y - 1)))) rfl ?_
                  refine r_istore_n X eX6_cost_85 (Nat.le_of_ble_eq_true rfl) (L2 := [some (.ref (b + 77)), some (.int (nI 0)), some (.int (nI nm)), some (.int (c + (coS lw P.1 P.2.1 (mv gr2) (mv mk2) y (dg nm P.2.1 y) (dg nm P.2.1 (y - 1))))), some (.int (nI y))]) rfl ?_
                  refine r_iinc X eX6_cost_86 rfl (nI (y + 1)) (inc_nI _) (L2 := [some (.ref (b + 77)), some (.int (nI 0)), some (.int (nI nm)), some (.int (c + (coS lw P.1 P.2.1 (mv gr2) (mv mk2) y (dg nm P.2.1 y) (dg nm P.2.1 (y - 1))))), some (.int (nI (y + 1)))]) rfl ?_
                  refine r_goto (tgt := 43) X eX6_cost_89 (by decide) ?_
                  exact ih29 (y + 1) (c + (coS lw P.1 P.2.1 (mv gr2) (mv mk2) y (dg nm P.2.1 y) (dg nm P.2.1 (y - 1))))  (by omega) (by rw [hc, sm])  (by omega)
          exact lp29 _ 0 0  (by omega) rfl  (Nat.lt_succ_self _)
        ·
          refine r_bipush X eX6_cost_35 ((-5 : Int32)) (by decide) ?_
          exact ret _ _ _ _ _ eX6_cost_37 (⟨by rw [aCost, if_pos ⟨c_1, by omega⟩, tn_nI hnw, tn_nI hnm, if_neg (show ¬ okN nm (nlP P 0) (nbP P 0) from c_28)], ⟨_, _, _, _, _, _, _, _, _, _, _, _, _, _, _, _, ⟨m17_w16, m18_w16, m19_w16, m20_w16, m21_w16, m22_w16, m23_w16, m24_w16, m25_w16, m26_w16, m27_w16⟩, hst, himg, hn8⟩, fr_w16⟩)
      ·
        obtain rfl : nw = 1 := by omega
        have hnl0 : nlP P 0 = P.2.1 := rfl
        have hnl1 : nlP P 1 = P.1 := rfl
        have hnb0 : nbP P 0 = P.1 := rfl
        have hnb1 : nbP P 1 = P.2.1 := rfl
        refine r_aload_n X eX6_cost_23 rfl ?_
        refine cv_X6_97 X eX6_cost_24 (c_X6_turn _ G b N w3 hN n P.1 P.2.1 sc kc bc bo ag bk st ims kf sg gr2 mk2 rs se tt tc ⟨m4_w3, m5_w3, m6_w3, m7_w3, m8_w3, m9_w3, m10_w3, m11_w3, m12_w3, m13_w3, m14_w3⟩ ) (by decide) (by omega) m4_w3 rfl (Nat.le_of_ble_eq_true rfl) (fun w32 hp32 => ?_)
        obtain ⟨gr5, mk5, ⟨y0T, y1T, y2T, y3T, y4T, y5T, y6T, y7T, y8T, y9T, y10T⟩, hT, gT⟩ := hp32
        have m33_w32 : w32 77 = .inr (6, [.ref (b + 78), .ref (b + 79), .ref (b + 80), .ref (b + 81), .int (nI n), .ref (b + 82), .ref (b + 83), .int (nI P.2.1), .int (nI P.1), .ref (b + 84), .ref (b + 85), .int sc, .int kc, .int bc, .int bo, .int ag, .int bk, .ref (b + 86), .ref (b + 87)]) := y0T
        have m34_w32 : w32 78 = aI G 131 st := y1T
        have m35_w32 : w32 79 = aI G 262 ims := y2T
        have m36_w32 : w32 80 = aZ G 2 kf := y3T
        have m37_w32 : w32 81 = aI G 80 sg := y4T
        have m38_w32 : w32 82 = aI G 64 gr5 := y5T
        have m39_w32 : w32 83 = aI G 64 mk5 := y6T
        have m40_w32 : w32 84 = aI G 64 rs := y7T
        have m41_w32 : w32 85 = aI G 8 se := y8T
        have m42_w32 : w32 86 = aI G 6272 tt := y9T
        have m43_w32 : w32 87 = aI G 49 tc := y10T
        have fr_w32 : ∀ j, (j < 77 ∨ 88 ≤ j) → w32 j = w j := fun j hj => (gT j (by omega)).trans (fr_w3 j hj)
        have hag5 := agG_turn hP hag hT
        refine r_aload_n X eX6_cost_27 rfl ?_
        refine r_iload_n X eX6_cost_28 rfl ?_
        refine cv_X6_147 X eX6_cost_29 (c_X6_layNumber _ G b N w32 hN n P.2.1 P.1 sc kc bc bo ag bk st ims kf sg gr5 mk5 rs se tt tc ⟨m33_w32, m34_w32, m35_w32, m36_w32, m37_w32, m38_w32, m39_w32, m40_w32, m41_w32, m42_w32, m43_w32⟩ (by omega) (by omega) (by omega) (by omega) nm hnm) (by decide) (by omega) m33_w32 rfl (Nat.le_of_ble_eq_true rfl) (fun r44 w44 hp44 => ?_)
        obtain ⟨roN, ⟨se2, ⟨y0N, y1N, y2N, y3N, y4N, y5N, y6N, y7N, y8N, y9N, y10N⟩, hse, gN⟩⟩ := hp44
        have m45_w44 : w44 77 = .inr (6, [.ref (b + 78), .ref (b + 79), .ref (b + 80), .ref (b + 81), .int (nI n), .ref (b + 82), .ref (b + 83), .int (nI P.2.1), .int (nI P.1), .ref (b + 84), .ref (b + 85), .int sc, .int kc, .int bc, .int bo, .int ag, .int bk, .ref (b + 86), .ref (b + 87)]) := y0N
        have m46_w44 : w44 78 = aI G 131 st := y1N
        have m47_w44 : w44 79 = aI G 262 ims := y2N
        have m48_w44 : w44 80 = aZ G 2 kf := y3N
        have m49_w44 : w44 81 = aI G 80 sg := y4N
        have m50_w44 : w44 82 = aI G 64 gr5 := y5N
        have m51_w44 : w44 83 = aI G 64 mk5 := y6N
        have m52_w44 : w44 84 = aI G 64 rs := y7N
        have m53_w44 : w44 85 = aI G 8 se2 := y8N
        have m54_w44 : w44 86 = aI G 6272 tt := y9N
        have m55_w44 : w44 87 = aI G 49 tc := y10N
        have fr_w44 : ∀ j, (j < 77 ∨ 88 ≤ j) → w44 j = w j := fun j hj => (gN j (by omega)).trans (fr_w32 j hj)
        rw [roN]
        refine r_ifne_b (tgt := 38) X eX6_cost_32 (by decide) (fun c_56 => ?_) (fun c_56 => ?_)
        ·
          have hq := c_56
          refine r_iconst X eX6_cost_38 ((0 : Int32)) (by decide) ?_
          refine r_istore_n X eX6_cost_39 (Nat.le_of_ble_eq_true rfl) (L2 := [some (.ref (b + 77)), some (.int (nI 1)), some (.int (nI nm)), some (.int ((0 : Int32))), none]) rfl ?_
          refine r_iconst X eX6_cost_40 (nI 0) (by decide) ?_
          refine r_istore X eX6_cost_41 (Nat.le_of_ble_eq_true rfl) (L2 := [some (.ref (b + 77)), some (.int (nI 1)), some (.int (nI nm)), some (.int ((0 : Int32))), some (.int (nI 0))]) rfl ?_
          have lp57 : ∀ (fu : Nat) (y : Nat) (c : Int32), (y ≤ P.1) → (c = sm (fun l => coS lw P.2.1 P.1 (mv gr5) (mv mk5) l (dg nm P.1 l) (dg nm P.1 (l - 1))) y) → P.1 - y < fu → V κ G b (N, 0, 0) w44 43 [some (.ref (b + 77)), some (.int (nI 1)), some (.int (nI nm)), some (.int c), some (.int (nI y))] [] := by
            intro fu
            induction fu with
            | zero => intro y c hy hc hm; exact absurd hm (Nat.not_lt_zero _)
            | succ fu ih57 =>
              intro y c hy hc hm
              refine r_iload X eX6_cost_43 rfl ?_
              refine r_aload_n X eX6_cost_45 rfl ?_
              refine gf_X6_49 X eX6_cost_46 (by omega) m45_w44 ?_
              refine r_icmp_ge (tgt := 92) X eX6_cost_49 (by decide) (nI_toInt (by omega)) (nI_toInt (by omega)) (fun c_58 => ?_) (fun c_58 => ?_)
              ·
                refine r_iload_n X eX6_cost_92 rfl ?_
                refine r_sipush X eX6_cost_93 ((10000 : Int32)) (by decide) ?_
                refine r_iadd X eX6_cost_96 (c + ((10000 : Int32))) rfl ?_
                exact ret _ _ _ _ _ eX6_cost_97 (⟨by rw [aCost, if_pos ⟨c_1, by omega⟩, tn_nI hnw, tn_nI hnm, if_pos (show okN nm (nlP P 1) (nbP P 1) from c_56), hc, costN]; exact congrArg (fun z => z + (10000 : Int32)) ((sm_eq (show y = P.1 by omega)).trans (sm_congr (fun l hl => agG_c (way := 1) hag5 l _ _ hl (hq.2.1 l hl) (hq.2.1 (l - 1) (by have : l < P.1 := hl; omega))))), ⟨_, _, _, _, _, _, _, _, _, _, _, _, _, _, _, _, ⟨m45_w44, m46_w44, m47_w44, m48_w44, m49_w44, m50_w44, m51_w44, m52_w44, m53_w44, m54_w44, m55_w44⟩, hst, himg, hn8⟩, fr_w44⟩)
              ·
                refine r_iload_n X eX6_cost_52 rfl ?_
                refine r_aload_n X eX6_cost_53 rfl ?_
                refine r_aload_n X eX6_cost_54 rfl ?_
                refine gf_X6_32 X eX6_cost_55 (by omega) m45_w44 ?_
                refine r_iload X eX6_cost_58 rfl ?_
                refine r_iald X eX6_cost_60 (by omega) m53_w44 (by omega) (by decide) ?_
                have hqy := hq.2.1 y (by omega)
                have hqz := hq.2.1 (y - 1) (by omega)
                refine r_top (y := nI (dg nm P.1 y)) (hse y (by omega)) ?_
                refine r_iload X eX6_cost_61 rfl ?_
                refine r_aload_n X eX6_cost_63 rfl ?_
                refine gf_X6_32 X eX6_cost_64 (by omega) m45_w44 ?_
                refine r_iload X eX6_cost_67 rfl ?_
                refine r_if_le (tgt := 79) X eX6_cost_69 (by decide) (nI_toInt (by omega)) (fun c_59 => ?_) (fun c_59 => ?_)
                ·
                  refine r_iconst X eX6_cost_79 (nI 0) (by decide) ?_
                  refine r_iald X eX6_cost_80 (by omega) m53_w44 (by omega) (by decide) ?_
                  refine r_top (y := nI (dg nm P.1 (y - 1))) (by rw [show y - 1 = 0 by omega]; exact hse 0 (by omega)) ?_
                  refine cp_X6_87 X eX6_cost_81 (c_X6_costOf _ G b N w44 hN n P.2.1 P.1 sc kc bc bo ag bk st ims kf sg gr5 mk5 rs se2 tt tc ⟨m45_w44, m46_w44, m47_w44, m48_w44, m49_w44, m50_w44, m51_w44, m52_w44, m53_w44, m54_w44, m55_w44⟩ (dg nm P.1 y) y hqy (by omega) (by omega) (by omega) lw hlw e3 (dg nm P.1 (y - 1)) (by omega)) (by decide) (by omega) m45_w44 rfl (Nat.le_of_ble_eq_true rfl) ?_
                  refine r_iadd X eX6_cost_84 (c + (coS lw P.2.1 P.1 (mv gr5) (mv mk5) y (dg nm P.1 y) (dg nm P.1 (y - 1)))) rfl ?_
                  refine r_istore_n X eX6_cost_85 (Nat.le_of_ble_eq_true rfl) (L2 := [some (.ref (b + 77)), some (.int (nI 1)), some (.int (nI nm)), some (.int (c + (coS lw P.2.1 P.1 (mv gr5) (mv mk5) y (dg nm P.1 y) (dg nm P.1 (y - 1))))), some (.int (nI y))]) rfl ?_
                  refine r_iinc X eX6_cost_86 rfl (nI (y + 1)) (inc_nI _) (L2 := [some (.ref (b + 77)), some (.int (nI 1)), some (.int (nI nm)), some (.int (c + (coS lw P.2.1 P.1 (mv gr5) (mv mk5) y (dg nm P.1 y) (dg nm P.1 (y - 1))))), some (.int (nI (y + 1)))]) rfl ?_
                  refine r_goto (tgt := 43) X eX6_cost_89 (by decide) ?_
                  exact ih57 (y + 1) (c + (coS lw P.2.1 P.1 (mv gr5) (mv mk5) y (dg nm P.1 y) (dg nm P.1 (y - 1))))  (by omega) (by rw [hc, sm])  (by omega)
                ·
                  refine r_iload X eX6_cost_72 rfl ?_
                  refine r_iconst X eX6_cost_74 (nI 1) (by decide) ?_
                  refine r_isub X eX6_cost_75 (nI (y - 1)) (pk_sub (by omega)) ?_
                  refine r_goto (tgt := 80) X eX6_cost_76 (by decide) ?_
                  refine r_iald X eX6_cost_80 (by omega) m53_w44 (by omega) (by decide) ?_
                  refine r_top (y := nI (dg nm P.1 (y - 1))) (hse (y - 1) (by omega)) ?_
                  refine cp_X6_87 X eX6_cost_81 (c_X6_costOf _ G b N w44 hN n P.2.1 P.1 sc kc bc bo ag bk st ims kf sg gr5 mk5 rs se2 tt tc ⟨m45_w44, m46_w44, m47_w44, m48_w44, m49_w44, m50_w44, m51_w44, m52_w44, m53_w44, m54_w44, m55_w44⟩ (dg nm P.1 y) y hqy (by omega) (by omega) (by omega) lw hlw e3 (dg nm P.1 (y - 1)) (by omega)) (by decide) (by omega) m45_w44 rfl (Nat.le_of_ble_eq_true rfl) ?_
                  refine r_iadd X eX6_cost_84 (c + (coS lw P.2.1 P.1 (mv gr5) (mv mk5) y (dg nm P.1 y) (dg nm P.1 (y - 1)))) rfl ?_
                  refine r_istore_n X eX6_cost_85 (Nat.le_of_ble_eq_true rfl) (L2 := [some (.ref (b + 77)), some (.int (nI 1)), some (.int (nI nm)), some (.int (c + (coS lw P.2.1 P.1 (mv gr5) (mv mk5) y (dg nm P.1 y) (dg nm P.1 (y - 1))))), some (.int (nI y))]) rfl ?_
                  refine r_iinc X eX6_cost_86 rfl (nI (y + 1)) (inc_nI _) (L2 := [some (.ref (b + 77)), some (.int (nI 1)), some (.int (nI nm)), some (.int (c + (coS lw P.2.1 P.1 (mv gr5) (mv mk5) y (dg nm P.1 y) (dg nm P.1 (y - 1))))), some (.int (nI (y + 1)))]) rfl ?_
                  refine r_goto (tgt := 43) X eX6_cost_89 (by decide) ?_
                  exact ih57 (y + 1) (c + (coS lw P.2.1 P.1 (mv gr5) (mv mk5) y (dg nm P.1 y) (dg nm P.1 (y - 1))))  (by omega) (by rw [hc, sm])  (by omega)
          exact lp57 _ 0 0  (by omega) rfl  (Nat.lt_succ_self _)
        ·
          refine r_bipush X eX6_cost_35 ((-5 : Int32)) (by decide) ?_
          exact ret _ _ _ _ _ eX6_cost_37 (⟨by rw [aCost, if_pos ⟨c_1, by omega⟩, tn_nI hnw, tn_nI hnm, if_neg (show ¬ okN nm (nlP P 1) (nbP P 1) from c_56)], ⟨_, _, _, _, _, _, _, _, _, _, _, _, _, _, _, _, ⟨m45_w44, m46_w44, m47_w44, m48_w44, m49_w44, m50_w44, m51_w44, m52_w44, m53_w44, m54_w44, m55_w44⟩, hst, himg, hn8⟩, fr_w44⟩)
    ·
      refine r_bipush X eX6_cost_11 ((-2 : Int32)) (by decide) ?_
      exact ret _ _ _ _ _ eX6_cost_13 (⟨(if_neg (fun q => absurd q.2 (by omega))).symm, ⟨_, _, _, _, _, _, _, _, _, _, _, _, _, _, _, _, ⟨m0, m1, m2, m3, m4, m5, m6, m7, m8, m9, m10⟩, hst, himg, hn8⟩, fr_w⟩)
set_option maxHeartbeats 4000000 in
set_option maxRecDepth 100000 in
theorem c_X6_save (l : Launch) (G : Gs) (b N : Nat) (w : Wd) (hN : 88 ≤ N) (n wd hg : Nat) (sc kc bc bo ag bk : Int32) (st ims kf sg gr mk rs se tt tc : Nat → Int32) (hm : mW G b w n wd hg sc kc bc bo ag bk st ims kf sg gr mk rs se tt tc) (pl : Nat) (hpl : pl < 49) : CV l yX6_save cX6_save 3 0 G b N w [.ref (b + 77), .int (nI pl)] (fun w2 => ∃ tt2, mW G b w2 n wd hg sc kc bc bo ag bk st ims kf sg gr mk rs se tt2 tc ∧ (∀ i, i < 64 → tt2 (128 * pl + i) = gr i ∧ tt2 (128 * pl + 64 + i) = mk i) ∧ (∀ j, (j < 128 * pl ∨ 128 * pl + 128 ≤ j) → tt2 j = tt j) ∧ ∀ j, (j < 77 ∨ 88 ≤ j) → w2 j = w j) := by
  obtain ⟨m0, m1, m2, m3, m4, m5, m6, m7, m8, m9, m10⟩ := hm
  refine CV_of (L0 := [some (.ref (b + 77)), some (.int (nI pl)), none]) (by decide) rfl (by simp [Value.category]) rfl (Nat.le_of_ble_eq_true rfl) (fun κ X ret => ?_)
  have fr_w : ∀ j, (j < 77 ∨ 88 ≤ j) → w j = w j := fun _ _ => rfl
  refine r_iconst X eX6_save_0 (nI 0) (by decide) ?_
  refine r_istore_n X eX6_save_1 (Nat.le_of_ble_eq_true rfl) (L2 := [some (.ref (b + 77)), some (.int (nI pl)), some (.int (nI 0))]) rfl ?_
  have lp1 : ∀ (fu : Nat) (i : Nat) (A : Nat → Int32) (w1 : Wd), (i ≤ 64) → (∀ j, j < i → A (128 * pl + j) = gr j ∧ A (128 * pl + 64 + j) = mk j) → (∀ j, (j < 128 * pl ∨ 128 * pl + 128 ≤ j) → A j = tt j) → (w1 77 = .inr (6, [.ref (b + 78), .ref (b + 79), .ref (b + 80), .ref (b + 81), .int (nI n), .ref (b + 82), .ref (b + 83), .int (nI wd), .int (nI hg), .ref (b + 84), .ref (b + 85), .int sc, .int kc, .int bc, .int bo, .int ag, .int bk, .ref (b + 86), .ref (b + 87)])) → (w1 78 = aI G 131 st) → (w1 79 = aI G 262 ims) → (w1 80 = aZ G 2 kf) → (w1 81 = aI G 80 sg) → (w1 82 = aI G 64 gr) → (w1 83 = aI G 64 mk) → (w1 84 = aI G 64 rs) → (w1 85 = aI G 8 se) → (w1 86 = aI G 6272 A) → (w1 87 = aI G 49 tc) → (∀ j, (j < 77 ∨ 88 ≤ j) → w1 j = w j) → 64 - i < fu → V κ G b (N, 0, 0) w1 2 [some (.ref (b + 77)), some (.int (nI pl)), some (.int (nI i))] [] := by
    intro fu
    induction fu with
    | zero => intro i A w1 hi hz ho m0_w1 m1_w1 m2_w1 m3_w1 m4_w1 m5_w1 m6_w1 m7_w1 m8_w1 m9_w1 m10_w1 fr_w1 hm; exact absurd hm (Nat.not_lt_zero _)
    | succ fu ih1 =>
      intro i A w1 hi hz ho m0_w1 m1_w1 m2_w1 m3_w1 m4_w1 m5_w1 m6_w1 m7_w1 m8_w1 m9_w1 m10_w1 fr_w1 hm
      refine r_iload_n X eX6_save_2 rfl ?_
      refine r_bipush X eX6_save_3 (nI 64) (by decide) ?_
      refine r_icmp_ge (tgt := 53) X eX6_save_5 (by decide) (nI_toInt (by omega)) (nI_toInt (by omega)) (fun c_2 => ?_) (fun c_2 => ?_)
      ·
        exact ret _ _ _ _ eX6_save_53 (⟨A, ⟨m0_w1, m1_w1, m2_w1, m3_w1, m4_w1, m5_w1, m6_w1, m7_w1, m8_w1, m9_w1, m10_w1⟩, fun j hj => hz j (by omega), ho, fr_w1⟩)
      ·
        refine r_aload_n X eX6_save_8 rfl ?_
        refine gf_X6_35 X eX6_save_9 (by omega) m0_w1 ?_
        refine r_sipush X eX6_save_12 (nI 128) (by decide) ?_
        refine r_iload_n X eX6_save_15 rfl ?_
        refine r_imul X eX6_save_16 (nI (128 * pl)) (pk_mul _ _) ?_
        refine r_iload_n X eX6_save_17 rfl ?_
        refine r_iadd X eX6_save_18 (nI (128 * pl + i)) (addN rfl) ?_
        refine r_aload_n X eX6_save_19 rfl ?_
        refine gf_X6_23 X eX6_save_20 (by omega) m0_w1 ?_
        refine r_iload_n X eX6_save_23 rfl ?_
        refine r_iald X eX6_save_24 (by omega) m5_w1 (by omega) (by decide) ?_
        refine r_iast X eX6_save_25 (by omega) m9_w1 (by omega) (by decide) (fun w3 n3_w3 uu3 => ?_)
        have m0_w3 := (uu3 77 (by omega)).trans m0_w1
        have m1_w3 := (uu3 78 (by omega)).trans m1_w1
        have m2_w3 := (uu3 79 (by omega)).trans m2_w1
        have m3_w3 := (uu3 80 (by omega)).trans m3_w1
        have m4_w3 := (uu3 81 (by omega)).trans m4_w1
        have m5_w3 := (uu3 82 (by omega)).trans m5_w1
        have m6_w3 := (uu3 83 (by omega)).trans m6_w1
        have m7_w3 := (uu3 84 (by omega)).trans m7_w1
        have m8_w3 := (uu3 85 (by omega)).trans m8_w1
        have m10_w3 := (uu3 87 (by omega)).trans m10_w1
        have fr_w3 : ∀ j, (j < 77 ∨ 88 ≤ j) → w3 j = w j := fun j hj => (uu3 j (by omega)).trans (fr_w1 j hj)
        refine r_aload_n X eX6_save_26 rfl ?_
        refine gf_X6_35 X eX6_save_27 (by omega) m0_w3 ?_
        refine r_sipush X eX6_save_30 (nI 128) (by decide) ?_
        refine r_iload_n X eX6_save_33 rfl ?_
        refine r_imul X eX6_save_34 (nI (128 * pl)) (pk_mul _ _) ?_
        refine r_bipush X eX6_save_35 (nI 64) (by decide) ?_
        refine r_iadd X eX6_save_37 (nI (128 * pl + 64)) (addN rfl) ?_
        refine r_iload_n X eX6_save_38 rfl ?_
        refine r_iadd X eX6_save_39 (nI (128 * pl + 64 + i)) (addN rfl) ?_
        refine r_aload_n X eX6_save_40 rfl ?_
        refine gf_X6_26 X eX6_save_41 (by omega) m0_w3 ?_
        refine r_iload_n X eX6_save_44 rfl ?_
        refine r_iald X eX6_save_45 (by omega) m6_w3 (by omega) (by decide) ?_
        refine r_iast X eX6_save_46 (by omega) n3_w3 (by omega) (by decide) (fun w4 n4_w4 uu4 => ?_)
        have m0_w4 := (uu4 77 (by omega)).trans m0_w3
        have m1_w4 := (uu4 78 (by omega)).trans m1_w3
        have m2_w4 := (uu4 79 (by omega)).trans m2_w3
        have m3_w4 := (uu4 80 (by omega)).trans m3_w3
        have m4_w4 := (uu4 81 (by omega)).trans m4_w3
        have m5_w4 := (uu4 82 (by omega)).trans m5_w3
        have m6_w4 := (uu4 83 (by omega)).trans m6_w3
        have m7_w4 := (uu4 84 (by omega)).trans m7_w3
        have m8_w4 := (uu4 85 (by omega)).trans m8_w3
        have m10_w4 := (uu4 87 (by omega)).trans m10_w3
        have fr_w4 : ∀ j, (j < 77 ∨ 88 ≤ j) → w4 j = w j := fun j hj => (uu4 j (by omega)).trans (fr_w3 j hj)
        refine r_iinc X eX6_save_47 rfl (nI (i + 1)) (inc_nI _) (L2 := [some (.ref (b + 77)), some (.int (nI pl)), some (.int (nI (i + 1)))]) rfl ?_
        refine r_goto (tgt := 2) X eX6_save_50 (by decide) ?_
        exact ih1 (i + 1) (upd (upd A (128 * pl + i) (gr i)) (128 * pl + 64 + i) (mk i)) w4 (by omega) (fun j hj => sv_st hz (by omega) hj) (fun j hj => by rw [upd_ne (by omega), upd_ne (by omega)]; exact ho j hj) m0_w4 m1_w4 m2_w4 m3_w4 m4_w4 m5_w4 m6_w4 m7_w4 m8_w4 n4_w4 m10_w4 fr_w4 (by omega)
  exact lp1 _ 0 tt w (by omega) (fun j hj => absurd hj (by omega)) (fun j hj => rfl) m0 m1 m2 m3 m4 m5 m6 m7 m8 m9 m10 fr_w (Nat.lt_succ_self _)
set_option maxHeartbeats 4000000 in
set_option maxRecDepth 100000 in
theorem c_X6_load (l : Launch) (G : Gs) (b N : Nat) (w : Wd) (hN : 88 ≤ N) (n wd hg : Nat) (sc kc bc bo ag bk : Int32) (st ims kf sg gr mk rs se tt tc : Nat → Int32) (hm : mW G b w n wd hg sc kc bc bo ag bk st ims kf sg gr mk rs se tt tc) (P : Pc) (hP : okPc P) (e1 : st 128 = nI P.1) (e2 : st 129 = nI P.2.1) (i j : Nat) (hi : i + 2 ≤ P.1) (hj : j + 2 ≤ P.2.1) : CV l yX6_load cX6_load 5 0 G b N w [.ref (b + 77), .int (nI i), .int (nI j)] (fun w2 => ∃ gr2 mk2, mW G b w2 n (P.1 - i) (P.2.1 - j) sc kc bc bo ag bk st ims kf sg gr2 mk2 rs se tt tc ∧ (∀ k, k < 64 → gr2 k = tt (128 * (7 * i + j) + k) ∧ mk2 k = tt (128 * (7 * i + j) + 64 + k)) ∧ ∀ jx, (jx < 77 ∨ 88 ≤ jx) → w2 jx = w jx) := by
  obtain ⟨m0, m1, m2, m3, m4, m5, m6, m7, m8, m9, m10⟩ := hm
  obtain ⟨o1, o2, o3, o4⟩ := hP
  refine CV_of (L0 := [some (.ref (b + 77)), some (.int (nI i)), some (.int (nI j)), none, none]) (by decide) rfl (by simp [Value.category]) rfl (Nat.le_of_ble_eq_true rfl) (fun κ X ret => ?_)
  have fr_w : ∀ j, (j < 77 ∨ 88 ≤ j) → w j = w j := fun _ _ => rfl
  refine r_bipush X eX6_load_0 (nI 7) (by decide) ?_
  refine r_iload_n X eX6_load_2 rfl ?_
  refine r_imul X eX6_load_3 (nI (7 * i)) (pk_mul _ _) ?_
  refine r_iload_n X eX6_load_4 rfl ?_
  refine r_iadd X eX6_load_5 (nI (7 * i + j)) (addN rfl) ?_
  refine r_istore_n X eX6_load_6 (Nat.le_of_ble_eq_true rfl) (L2 := [some (.ref (b + 77)), some (.int (nI i)), some (.int (nI j)), some (.int (nI (7 * i + j))), none]) rfl ?_
  refine r_iconst X eX6_load_7 (nI 0) (by decide) ?_
  refine r_istore X eX6_load_8 (Nat.le_of_ble_eq_true rfl) (L2 := [some (.ref (b + 77)), some (.int (nI i)), some (.int (nI j)), some (.int (nI (7 * i + j))), some (.int (nI 0))]) rfl ?_
  have lp1 : ∀ (fu : Nat) (u : Nat) (A M : Nat → Int32) (w1 : Wd), (u ≤ 64) → (∀ k, k < u → A k = tt (128 * (7 * i + j) + k) ∧ M k = tt (128 * (7 * i + j) + 64 + k)) → (w1 77 = .inr (6, [.ref (b + 78), .ref (b + 79), .ref (b + 80), .ref (b + 81), .int (nI n), .ref (b + 82), .ref (b + 83), .int (nI wd), .int (nI hg), .ref (b + 84), .ref (b + 85), .int sc, .int kc, .int bc, .int bo, .int ag, .int bk, .ref (b + 86), .ref (b + 87)])) → (w1 78 = aI G 131 st) → (w1 79 = aI G 262 ims) → (w1 80 = aZ G 2 kf) → (w1 81 = aI G 80 sg) → (w1 82 = aI G 64 A) → (w1 83 = aI G 64 M) → (w1 84 = aI G 64 rs) → (w1 85 = aI G 8 se) → (w1 86 = aI G 6272 tt) → (w1 87 = aI G 49 tc) → (∀ j, (j < 77 ∨ 88 ≤ j) → w1 j = w j) → 64 - u < fu → V κ G b (N, 0, 0) w1 10 [some (.ref (b + 77)), some (.int (nI i)), some (.int (nI j)), some (.int (nI (7 * i + j))), some (.int (nI u))] [] := by
    intro fu
    induction fu with
    | zero => intro u A M w1 hu hz m0_w1 m1_w1 m2_w1 m3_w1 m4_w1 m5_w1 m6_w1 m7_w1 m8_w1 m9_w1 m10_w1 fr_w1 hm; exact absurd hm (Nat.not_lt_zero _)
    | succ fu ih1 =>
      intro u A M w1 hu hz m0_w1 m1_w1 m2_w1 m3_w1 m4_w1 m5_w1 m6_w1 m7_w1 m8_w1 m9_w1 m10_w1 fr_w1 hm
      refine r_iload X eX6_load_10 rfl ?_
      refine r_bipush X eX6_load_12 (nI 64) (by decide) ?_
      refine r_icmp_ge (tgt := 66) X eX6_load_14 (by decide) (nI_toInt (by omega)) (nI_toInt (by omega)) (fun c_2 => ?_) (fun c_2 => ?_)
      ·
        refine r_aload_n X eX6_load_66 rfl ?_
        refine r_aload_n X eX6_load_67 rfl ?_
        refine gf_X6_7 X eX6_load_68 (by omega) m0_w1 ?_
        refine r_sipush X eX6_load_71 (nI 128) (by decide) ?_
        refine r_iald X eX6_load_74 (by omega) m1_w1 (by omega) (by decide) ?_
        refine r_top (y := nI P.1) e1 ?_
        refine r_iload_n X eX6_load_75 rfl ?_
        refine r_isub X eX6_load_76 (nI (P.1 - i)) (pk_sub (by omega)) ?_
        refine pf_X6_45 X eX6_load_77 (by omega) m0_w1 (fun w3 n3_w3 uu3 => ?_)
        have m1_w3 := (uu3 78 (by omega)).trans m1_w1
        have m2_w3 := (uu3 79 (by omega)).trans m2_w1
        have m3_w3 := (uu3 80 (by omega)).trans m3_w1
        have m4_w3 := (uu3 81 (by omega)).trans m4_w1
        have m5_w3 := (uu3 82 (by omega)).trans m5_w1
        have m6_w3 := (uu3 83 (by omega)).trans m6_w1
        have m7_w3 := (uu3 84 (by omega)).trans m7_w1
        have m8_w3 := (uu3 85 (by omega)).trans m8_w1
        have m9_w3 := (uu3 86 (by omega)).trans m9_w1
        have m10_w3 := (uu3 87 (by omega)).trans m10_w1
        have fr_w3 : ∀ j, (j < 77 ∨ 88 ≤ j) → w3 j = w j := fun j hj => (uu3 j (by omega)).trans (fr_w1 j hj)
        refine r_aload_n X eX6_load_80 rfl ?_
        refine r_aload_n X eX6_load_81 rfl ?_
        refine gf_X6_7 X eX6_load_82 (by omega) n3_w3 ?_
        refine r_sipush X eX6_load_85 (nI 129) (by decide) ?_
        refine r_iald X eX6_load_88 (by omega) m1_w3 (by omega) (by decide) ?_
        refine r_top (y := nI P.2.1) e2 ?_
        refine r_iload_n X eX6_load_89 rfl ?_
        refine r_isub X eX6_load_90 (nI (P.2.1 - j)) (pk_sub (by omega)) ?_
        refine pf_X6_49 X eX6_load_91 (by omega) n3_w3 (fun w4 n4_w4 uu4 => ?_)
        have m1_w4 := (uu4 78 (by omega)).trans m1_w3
        have m2_w4 := (uu4 79 (by omega)).trans m2_w3
        have m3_w4 := (uu4 80 (by omega)).trans m3_w3
        have m4_w4 := (uu4 81 (by omega)).trans m4_w3
        have m5_w4 := (uu4 82 (by omega)).trans m5_w3
        have m6_w4 := (uu4 83 (by omega)).trans m6_w3
        have m7_w4 := (uu4 84 (by omega)).trans m7_w3
        have m8_w4 := (uu4 85 (by omega)).trans m8_w3
        have m9_w4 := (uu4 86 (by omega)).trans m9_w3
        have m10_w4 := (uu4 87 (by omega)).trans m10_w3
        have fr_w4 : ∀ j, (j < 77 ∨ 88 ≤ j) → w4 j = w j := fun j hj => (uu4 j (by omega)).trans (fr_w3 j hj)
        exact ret _ _ _ _ eX6_load_94 (⟨A, M, ⟨n4_w4, m1_w4, m2_w4, m3_w4, m4_w4, m5_w4, m6_w4, m7_w4, m8_w4, m9_w4, m10_w4⟩, fun k hk => hz k (by omega), fr_w4⟩)
      ·
        refine r_aload_n X eX6_load_17 rfl ?_
        refine gf_X6_23 X eX6_load_18 (by omega) m0_w1 ?_
        refine r_iload X eX6_load_21 rfl ?_
        refine r_aload_n X eX6_load_23 rfl ?_
        refine gf_X6_35 X eX6_load_24 (by omega) m0_w1 ?_
        refine r_sipush X eX6_load_27 (nI 128) (by decide) ?_
        refine r_iload_n X eX6_load_30 rfl ?_
        refine r_imul X eX6_load_31 (nI (128 * (7 * i + j))) (pk_mul _ _) ?_
        refine r_iload X eX6_load_32 rfl ?_
        refine r_iadd X eX6_load_34 (nI (128 * (7 * i + j) + u)) (addN rfl) ?_
        refine r_iald X eX6_load_35 (by omega) m9_w1 (by omega) (by decide) ?_
        refine r_iast X eX6_load_36 (by omega) m5_w1 (by omega) (by decide) (fun w5 n5_w5 uu5 => ?_)
        have m0_w5 := (uu5 77 (by omega)).trans m0_w1
        have m1_w5 := (uu5 78 (by omega)).trans m1_w1
        have m2_w5 := (uu5 79 (by omega)).trans m2_w1
        have m3_w5 := (uu5 80 (by omega)).trans m3_w1
        have m4_w5 := (uu5 81 (by omega)).trans m4_w1
        have m6_w5 := (uu5 83 (by omega)).trans m6_w1
        have m7_w5 := (uu5 84 (by omega)).trans m7_w1
        have m8_w5 := (uu5 85 (by omega)).trans m8_w1
        have m9_w5 := (uu5 86 (by omega)).trans m9_w1
        have m10_w5 := (uu5 87 (by omega)).trans m10_w1
        have fr_w5 : ∀ j, (j < 77 ∨ 88 ≤ j) → w5 j = w j := fun j hj => (uu5 j (by omega)).trans (fr_w1 j hj)
        refine r_aload_n X eX6_load_37 rfl ?_
        refine gf_X6_26 X eX6_load_38 (by omega) m0_w5 ?_
        refine r_iload X eX6_load_41 rfl ?_
        refine r_aload_n X eX6_load_43 rfl ?_
        refine gf_X6_35 X eX6_load_44 (by omega) m0_w5 ?_
        refine r_sipush X eX6_load_47 (nI 128) (by decide) ?_
        refine r_iload_n X eX6_load_50 rfl ?_
        refine r_imul X eX6_load_51 (nI (128 * (7 * i + j))) (pk_mul _ _) ?_
        refine r_bipush X eX6_load_52 (nI 64) (by decide) ?_
        refine r_iadd X eX6_load_54 (nI (128 * (7 * i + j) + 64)) (addN rfl) ?_
        refine r_iload X eX6_load_55 rfl ?_
        refine r_iadd X eX6_load_57 (nI (128 * (7 * i + j) + 64 + u)) (addN rfl) ?_
        refine r_iald X eX6_load_58 (by omega) m9_w5 (by omega) (by decide) ?_
        refine r_iast X eX6_load_59 (by omega) m6_w5 (by omega) (by decide) (fun w6 n6_w6 uu6 => ?_)
        have m0_w6 := (uu6 77 (by omega)).trans m0_w5
        have m1_w6 := (uu6 78 (by omega)).trans m1_w5
        have m2_w6 := (uu6 79 (by omega)).trans m2_w5
        have m3_w6 := (uu6 80 (by omega)).trans m3_w5
        have m4_w6 := (uu6 81 (by omega)).trans m4_w5
        have n5_w6 := (uu6 82 (by omega)).trans n5_w5
        have m7_w6 := (uu6 84 (by omega)).trans m7_w5
        have m8_w6 := (uu6 85 (by omega)).trans m8_w5
        have m9_w6 := (uu6 86 (by omega)).trans m9_w5
        have m10_w6 := (uu6 87 (by omega)).trans m10_w5
        have fr_w6 : ∀ j, (j < 77 ∨ 88 ≤ j) → w6 j = w j := fun j hj => (uu6 j (by omega)).trans (fr_w5 j hj)
        refine r_iinc X eX6_load_60 rfl (nI (u + 1)) (inc_nI _) (L2 := [some (.ref (b + 77)), some (.int (nI i)), some (.int (nI j)), some (.int (nI (7 * i + j))), some (.int (nI (u + 1)))]) rfl ?_
        refine r_goto (tgt := 10) X eX6_load_63 (by decide) ?_
        exact ih1 (u + 1) (upd A u (tt (128 * (7 * i + j) + u))) (upd M u (tt (128 * (7 * i + j) + 64 + u))) w6 (by omega) (fun k hk => upd2_c (ga := fun k => tt (128 * (7 * i + j) + k)) (ma := fun k => tt (128 * (7 * i + j) + 64 + k)) hz hk) m0_w6 m1_w6 m2_w6 m3_w6 m4_w6 n5_w6 n6_w6 m7_w6 m8_w6 m9_w6 m10_w6 fr_w6 (by omega)
  exact lp1 _ 0 gr mk w (by omega) (fun k hk => absurd hk (by omega)) m0 m1 m2 m3 m4 m5 m6 m7 m8 m9 m10 fr_w (Nat.lt_succ_self _)
