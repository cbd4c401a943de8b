set_option maxHeartbeats 4000000 in
set_option maxRecDepth 100000 in
theorem c_X6_laySeam (l : Launch) (G : Gs) (b N : Nat) (w : Wd) (hN : 88 ≤ N) (n wd hg : Nat) (sc kc bc bo ag bk : Int32) (st ims kf sg gr mk rs se tt tc : Nat → Int32) (hm : mW G b w n wd hg sc kc bc bo ag bk st ims kf sg gr mk rs se tt tc) (h2 : 2 ≤ wd) (h8 : wd ≤ 8) (g2 : 2 ≤ hg) (h9 : hg ≤ 8) (lw : Nat) (hlw : lw < 2) (hst : st 130 = nI lw) : CV l yX6_laySeam cX6_laySeam 4 8 G b N w [.ref (b + 77)] (fun w2 => ∃ rs2 se2, mW G b w2 n wd hg (toS (coS lw wd hg (mv gr) (mv mk)) wd hg) kc bc bo ag bk st ims kf sg gr mk rs2 se2 tt tc ∧ okP se2 (sS (coS lw wd hg (mv gr) (mv mk)) wd hg) hg wd ∧ ∀ j, (j < 77 ∨ 88 ≤ j) → w2 j = w j) := by
  obtain ⟨m0, m1, m2, m3, m4, m5, m6, m7, m8, m9, m10⟩ := hm
  refine CV_of (L0 := [some (.ref (b + 77)), none, none, none]) (by decide) rfl (by simp [Value.category]) rfl (Nat.le_of_ble_eq_true rfl) (fun κ X ret => ?_)
  have fr_w : ∀ j, (j < 77 ∨ 88 ≤ j) → w j = w j := fun _ _ => rfl
  refine r_iconst X eX6_laySeam_0 (nI 0) (by decide) ?_
  refine r_istore_n X eX6_laySeam_1 (Nat.le_of_ble_eq_true rfl) (L2 := [some (.ref (b + 77)), some (.int (nI 0)), none, none]) rfl ?_
  have lp1 : ∀ (fu : Nat) (x : Nat) (rs1 : Nat → Int32) (w1 : Wd), (x ≤ wd) → (∀ q, q < x → rs1 (8 * (hg - 1) + q) = 0) → (w1 77 = .inr (6, [.ref (b + 78), .ref (b + 79), .ref (b + 80), .ref (b + 81), .int (nI n), .ref (b + 82), .ref (b + 83), .int (nI wd), .int (nI hg), .ref (b + 84), .ref (b + 85), .int sc, .int kc, .int bc, .int bo, .int ag, .int bk, .ref (b + 86), .ref (b + 87)])) → (w1 78 = aI G 131 st) → (w1 79 = aI G 262 ims) → (w1 80 = aZ G 2 kf) → (w1 81 = aI G 80 sg) → (w1 82 = aI G 64 gr) → (w1 83 = aI G 64 mk) → (w1 84 = aI G 64 rs1) → (w1 85 = aI G 8 se) → (w1 86 = aI G 6272 tt) → (w1 87 = aI G 49 tc) → (∀ j, (j < 77 ∨ 88 ≤ j) → w1 j = w j) → wd - x < fu → V κ G b (N, 0, 0) w1 2 [some (.ref (b + 77)), some (.int (nI x)), none, none] [] := by
    intro fu
    induction fu with
    | zero => intro x rs1 w1 hx hz m0_w1 m1_w1 m2_w1 m3_w1 m4_w1 m5_w1 m6_w1 m7_w1 m8_w1 m9_w1 m10_w1 fr_w1 hm; exact absurd hm (Nat.not_lt_zero _)
    | succ fu ih1 =>
      intro x rs1 w1 hx hz m0_w1 m1_w1 m2_w1 m3_w1 m4_w1 m5_w1 m6_w1 m7_w1 m8_w1 m9_w1 m10_w1 fr_w1 hm
      refine r_iload_n X eX6_laySeam_2 rfl ?_
      refine r_aload_n X eX6_laySeam_3 rfl ?_
      refine gf_X6_45 X eX6_laySeam_4 (by omega) m0_w1 ?_
      refine r_icmp_ge (tgt := 32) X eX6_laySeam_7 (by decide) (nI_toInt (by omega)) (nI_toInt (by omega)) (fun c_2 => ?_) (fun c_2 => ?_)
      ·
        refine r_aload_n X eX6_laySeam_32 rfl ?_
        refine gf_X6_49 X eX6_laySeam_33 (by omega) m0_w1 ?_
        refine r_iconst X eX6_laySeam_36 (nI 2) (by decide) ?_
        refine r_isub X eX6_laySeam_37 (nP (hg - 1)) (by rw [pk_sub (by omega), nP_pos (by omega)]; congr 1) ?_
        refine r_istore_n X eX6_laySeam_38 (Nat.le_of_ble_eq_true rfl) (L2 := [some (.ref (b + 77)), some (.int (nP (hg - 1))), none, none]) rfl ?_
        have lp3 : ∀ (fu : Nat) (t : Nat) (rs2 : Nat → Int32) (w3 : Wd), (t ≤ hg - 1) → (RI (coS lw wd hg (mv gr) (mv mk)) wd hg t 0 rs2) → (w3 77 = .inr (6, [.ref (b + 78), .ref (b + 79), .ref (b + 80), .ref (b + 81), .int (nI n), .ref (b + 82), .ref (b + 83), .int (nI wd), .int (nI hg), .ref (b + 84), .ref (b + 85), .int sc, .int kc, .int bc, .int bo, .int ag, .int bk, .ref (b + 86), .ref (b + 87)])) → (w3 78 = aI G 131 st) → (w3 79 = aI G 262 ims) → (w3 80 = aZ G 2 kf) → (w3 81 = aI G 80 sg) → (w3 82 = aI G 64 gr) → (w3 83 = aI G 64 mk) → (w3 84 = aI G 64 rs2) → (w3 85 = aI G 8 se) → (w3 86 = aI G 6272 tt) → (w3 87 = aI G 49 tc) → (∀ j, (j < 77 ∨ 88 ≤ j) → w3 j = w j) → t < fu → V κ G b (N, 0, 0) w3 39 [some (.ref (b + 77)), some (.int (nP t)), none, none] [] := by
          intro fu
          induction fu with
          | zero => intro t rs2 w3 ht hR m0_w3 m1_w3 m2_w3 m3_w3 m4_w3 m5_w3 m6_w3 m7_w3 m8_w3 m9_w3 m10_w3 fr_w3 hm; exact absurd hm (Nat.not_lt_zero _)
          | succ fu ih3 =>
            intro t rs2 w3 ht hR m0_w3 m1_w3 m2_w3 m3_w3 m4_w3 m5_w3 m6_w3 m7_w3 m8_w3 m9_w3 m10_w3 fr_w3 hm
            refine r_iload_n X eX6_laySeam_39 rfl ?_
            refine r_if_lt (tgt := 106) X eX6_laySeam_40 (by decide) (nP_toInt (by omega)) (fun c_4 => ?_) (fun c_4 => ?_)
            ·
              refine r_iconst X eX6_laySeam_106 (nI 0) (by decide) ?_
              refine r_istore_n X eX6_laySeam_107 (Nat.le_of_ble_eq_true rfl) (L2 := [some (.ref (b + 77)), some (.int (nI 0)), none, none]) rfl ?_
              refine r_iconst X eX6_laySeam_108 (nI 1) (by decide) ?_
              refine r_istore_n X eX6_laySeam_109 (Nat.le_of_ble_eq_true rfl) (L2 := [some (.ref (b + 77)), some (.int (nI 0)), some (.int (nI 1)), none]) rfl ?_
              have lp5 : ∀ (fu : Nat) (i v : Nat), (i + 1 ≤ wd) → (v = am (fun p => coS lw wd hg (mv gr) (mv mk) 0 p p + rs2 (8 * 0 + p)) 0 i) → (v ≤ i) → wd - i < fu → V κ G b (N, 0, 0) w3 110 [some (.ref (b + 77)), some (.int (nI v)), some (.int (nI (i + 1))), none] [] := by
                intro fu
                induction fu with
                | zero => intro i v hi hv hvl hm; exact absurd hm (Nat.not_lt_zero _)
                | succ fu ih5 =>
                  intro i v hi hv hvl hm
                  refine r_iload_n X eX6_laySeam_110 rfl ?_
                  refine r_aload_n X eX6_laySeam_111 rfl ?_
                  refine gf_X6_45 X eX6_laySeam_112 (by omega) m0_w3 ?_
                  refine r_icmp_ge (tgt := 169) X eX6_laySeam_115 (by decide) (nI_toInt (by omega)) (nI_toInt (by omega)) (fun c_6 => ?_) (fun c_6 => ?_)
                  ·
                    have hrs0 : ∀ q, q < wd → rs2 (8 * 0 + q) = Rs (coS lw wd hg (mv gr) (mv mk)) wd hg (hg - 1) q := fun q hq => hR 0 q (by omega) hq (by omega)
                    have hv0 : v = sS (coS lw wd hg (mv gr) (mv mk)) wd hg 0 := by rw [hv, show i = wd - 1 by omega]; exact am_congr (fun j _ hj => congrArg (fun z => coS lw wd hg (mv gr) (mv mk) 0 j j + z) (hrs0 j (by omega)))
                    subst hv0
                    have hsl := sS_lt (c := coS lw wd hg (mv gr) (mv mk)) (nb := wd) (nl := hg) (by omega) 0
                    refine r_aload_n X eX6_laySeam_169 rfl ?_
                    refine r_aload_n X eX6_laySeam_170 rfl ?_
                    refine r_iload_n X eX6_laySeam_171 rfl ?_
                    refine r_iconst X eX6_laySeam_172 (nI 0) (by decide) ?_
                    refine r_iload_n X eX6_laySeam_173 rfl ?_
                    refine cp_X6_87 X eX6_laySeam_174 (c_X6_costOf _ G b N w3 hN n wd hg sc kc bc bo ag bk st ims kf sg gr mk rs2 se tt tc ⟨m0_w3, m1_w3, m2_w3, m3_w3, m4_w3, m5_w3, m6_w3, m7_w3, m8_w3, m9_w3, m10_w3⟩ (sS (coS lw wd hg (mv gr) (mv mk)) wd hg 0) 0 (by omega) (by omega) h8 h9 lw hlw hst (sS (coS lw wd hg (mv gr) (mv mk)) wd hg 0) (by omega)) (by decide) (by omega) m0_w3 rfl (Nat.le_of_ble_eq_true rfl) ?_
                    refine r_aload_n X eX6_laySeam_177 rfl ?_
                    refine gf_X6_29 X eX6_laySeam_178 (by omega) m0_w3 ?_
                    refine r_iload_n X eX6_laySeam_181 rfl ?_
                    refine r_iconst X eX6_laySeam_182 (nI 0) (by decide) ?_
                    refine cp_X6_52 X eX6_laySeam_183 (c_X6_at _ G b N w3 (sS (coS lw wd hg (mv gr) (mv mk)) wd hg 0) 0) (by decide) rfl (Nat.le_of_ble_eq_true rfl) ?_
                    refine r_iald X eX6_laySeam_186 (by omega) m7_w3 (by omega) (by decide) ?_
                    refine r_iadd X eX6_laySeam_187 ((coS lw wd hg (mv gr) (mv mk) 0 (sS (coS lw wd hg (mv gr) (mv mk)) wd hg 0) (sS (coS lw wd hg (mv gr) (mv mk)) wd hg 0)) + (rs2 (8 * 0 + (sS (coS lw wd hg (mv gr) (mv mk)) wd hg 0)))) rfl ?_
                    refine r_top (y := toS (coS lw wd hg (mv gr) (mv mk)) wd hg) (congrArg (fun z => coS lw wd hg (mv gr) (mv mk) 0 (sS (coS lw wd hg (mv gr) (mv mk)) wd hg 0) (sS (coS lw wd hg (mv gr) (mv mk)) wd hg 0) + z) (hrs0 _ hsl)) ?_
                    refine pf_X6_94 X eX6_laySeam_188 (by omega) m0_w3 (fun w7 n7_w7 uu7 => ?_)
                    have m1_w7 := (uu7 78 (by omega)).trans m1_w3
                    have m2_w7 := (uu7 79 (by omega)).trans m2_w3
                    have m3_w7 := (uu7 80 (by omega)).trans m3_w3
                    have m4_w7 := (uu7 81 (by omega)).trans m4_w3
                    have m5_w7 := (uu7 82 (by omega)).trans m5_w3
                    have m6_w7 := (uu7 83 (by omega)).trans m6_w3
                    have m7_w7 := (uu7 84 (by omega)).trans m7_w3
                    have m8_w7 := (uu7 85 (by omega)).trans m8_w3
                    have m9_w7 := (uu7 86 (by omega)).trans m9_w3
                    have m10_w7 := (uu7 87 (by omega)).trans m10_w3
                    have fr_w7 : ∀ j, (j < 77 ∨ 88 ≤ j) → w7 j = w j := fun j hj => (uu7 j (by omega)).trans (fr_w3 j hj)
                    refine r_aload_n X eX6_laySeam_191 rfl ?_
                    refine gf_X6_32 X eX6_laySeam_192 (by omega) n7_w7 ?_
                    refine r_iconst X eX6_laySeam_195 (nI 0) (by decide) ?_
                    refine r_iload_n X eX6_laySeam_196 rfl ?_
                    refine r_iast X eX6_laySeam_197 (by omega) m8_w7 (by omega) (by decide) (fun w8 n8_w8 uu8 => ?_)
                    have n7_w8 := (uu8 77 (by omega)).trans n7_w7
                    have m1_w8 := (uu8 78 (by omega)).trans m1_w7
                    have m2_w8 := (uu8 79 (by omega)).trans m2_w7
                    have m3_w8 := (uu8 80 (by omega)).trans m3_w7
                    have m4_w8 := (uu8 81 (by omega)).trans m4_w7
                    have m5_w8 := (uu8 82 (by omega)).trans m5_w7
                    have m6_w8 := (uu8 83 (by omega)).trans m6_w7
                    have m7_w8 := (uu8 84 (by omega)).trans m7_w7
                    have m9_w8 := (uu8 86 (by omega)).trans m9_w7
                    have m10_w8 := (uu8 87 (by omega)).trans m10_w7
                    have fr_w8 : ∀ j, (j < 77 ∨ 88 ≤ j) → w8 j = w j := fun j hj => (uu8 j (by omega)).trans (fr_w7 j hj)
                    refine r_iconst X eX6_laySeam_198 (nI 1) (by decide) ?_
                    refine r_istore_n X eX6_laySeam_199 (Nat.le_of_ble_eq_true rfl) (L2 := [some (.ref (b + 77)), some (.int (nI (sS (coS lw wd hg (mv gr) (mv mk)) wd hg 0))), some (.int (nI 1)), none]) rfl ?_
                    have lp9 : ∀ (fu : Nat) (u : Nat) (se2 : Nat → Int32) (w9 : Wd), (u + 1 ≤ hg) → (∀ j, j ≤ u → se2 j = nI (sS (coS lw wd hg (mv gr) (mv mk)) wd hg j)) → (w9 77 = .inr (6, [.ref (b + 78), .ref (b + 79), .ref (b + 80), .ref (b + 81), .int (nI n), .ref (b + 82), .ref (b + 83), .int (nI wd), .int (nI hg), .ref (b + 84), .ref (b + 85), .int (toS (coS lw wd hg (mv gr) (mv mk)) wd hg), .int kc, .int bc, .int bo, .int ag, .int bk, .ref (b + 86), .ref (b + 87)])) → (w9 78 = aI G 131 st) → (w9 79 = aI G 262 ims) → (w9 80 = aZ G 2 kf) → (w9 81 = aI G 80 sg) → (w9 82 = aI G 64 gr) → (w9 83 = aI G 64 mk) → (w9 84 = aI G 64 rs2) → (w9 85 = aI G 8 se2) → (w9 86 = aI G 6272 tt) → (w9 87 = aI G 49 tc) → (∀ j, (j < 77 ∨ 88 ≤ j) → w9 j = w j) → hg - u < fu → V κ G b (N, 0, 0) w9 200 [some (.ref (b + 77)), some (.int (nI (sS (coS lw wd hg (mv gr) (mv mk)) wd hg 0))), some (.int (nI (u + 1))), none] [] := by
                      intro fu
                      induction fu with
                      | zero => intro u se2 w9 hu hz n7_w9 m1_w9 m2_w9 m3_w9 m4_w9 m5_w9 m6_w9 m7_w9 n8_w9 m9_w9 m10_w9 fr_w9 hm; exact absurd hm (Nat.not_lt_zero _)
                      | succ fu ih9 =>
                        intro u se2 w9 hu hz n7_w9 m1_w9 m2_w9 m3_w9 m4_w9 m5_w9 m6_w9 m7_w9 n8_w9 m9_w9 m10_w9 fr_w9 hm
                        refine r_iload_n X eX6_laySeam_200 rfl ?_
                        refine r_aload_n X eX6_laySeam_201 rfl ?_
                        refine gf_X6_49 X eX6_laySeam_202 (by omega) n7_w9 ?_
                        refine r_icmp_ge (tgt := 233) X eX6_laySeam_205 (by decide) (nI_toInt (by omega)) (nI_toInt (by omega)) (fun c_10 => ?_) (fun c_10 => ?_)
                        ·
                          exact ret _ _ _ _ eX6_laySeam_233 (⟨rs2, se2, ⟨n7_w9, m1_w9, m2_w9, m3_w9, m4_w9, m5_w9, m6_w9, m7_w9, n8_w9, m9_w9, m10_w9⟩, fun j hj => ⟨hz j (by omega), sS_lt (by omega) j⟩, fr_w9⟩)
                        ·
                          have hsu := sS_lt (c := coS lw wd hg (mv gr) (mv mk)) (nb := wd) (nl := hg) (by omega) u
                          refine r_aload_n X eX6_laySeam_208 rfl ?_
                          refine gf_X6_32 X eX6_laySeam_209 (by omega) n7_w9 ?_
                          refine r_iload_n X eX6_laySeam_212 rfl ?_
                          refine r_aload_n X eX6_laySeam_213 rfl ?_
                          refine r_aload_n X eX6_laySeam_214 rfl ?_
                          refine gf_X6_32 X eX6_laySeam_215 (by omega) n7_w9 ?_
                          refine r_iload_n X eX6_laySeam_218 rfl ?_
                          refine r_iconst X eX6_laySeam_219 (nI 1) (by decide) ?_
                          refine r_isub X eX6_laySeam_220 (nI u) (nI_pred _) ?_
                          refine r_iald X eX6_laySeam_221 (by omega) n8_w9 (by omega) (by decide) ?_
                          refine r_top (y := nI (sS (coS lw wd hg (mv gr) (mv mk)) wd hg u)) (hz u (Nat.le_refl u)) ?_
                          refine r_iload_n X eX6_laySeam_222 rfl ?_
                          refine cp_X6_91 X eX6_laySeam_223 (c_X6_nextFrom _ G b N w9 hN n wd hg (toS (coS lw wd hg (mv gr) (mv mk)) wd hg) kc bc bo ag bk st ims kf sg gr mk rs2 se2 tt tc ⟨n7_w9, m1_w9, m2_w9, m3_w9, m4_w9, m5_w9, m6_w9, m7_w9, n8_w9, m9_w9, m10_w9⟩ (sS (coS lw wd hg (mv gr) (mv mk)) wd hg u) (u + 1) (by omega) (by omega) h8 h9 lw hlw hst) (by decide) (by omega) n7_w9 rfl (Nat.le_of_ble_eq_true rfl) ?_
                          refine r_top (y := nI (sS (coS lw wd hg (mv gr) (mv mk)) wd hg (u + 1))) (congrArg nI (nx_gN (t := u + 1) (by omega) (by omega) (fun q hq => hR (u + 1) q (by omega) hq (by omega)) hsu)) ?_
                          refine r_iast X eX6_laySeam_226 (by omega) n8_w9 (by omega) (by decide) (fun w11 n11_w11 uu11 => ?_)
                          have n7_w11 := (uu11 77 (by omega)).trans n7_w9
                          have m1_w11 := (uu11 78 (by omega)).trans m1_w9
                          have m2_w11 := (uu11 79 (by omega)).trans m2_w9
                          have m3_w11 := (uu11 80 (by omega)).trans m3_w9
                          have m4_w11 := (uu11 81 (by omega)).trans m4_w9
                          have m5_w11 := (uu11 82 (by omega)).trans m5_w9
                          have m6_w11 := (uu11 83 (by omega)).trans m6_w9
                          have m7_w11 := (uu11 84 (by omega)).trans m7_w9
                          have m9_w11 := (uu11 86 (by omega)).trans m9_w9
                          have m10_w11 := (uu11 87 (by omega)).trans m10_w9
                          have fr_w11 : ∀ j, (j < 77 ∨ 88 ≤ j) → w11 j = w j := fun j hj => (uu11 j (by omega)).trans (fr_w9 j hj)
                          refine r_iinc X eX6_laySeam_227 rfl (nI (u + 2)) (inc_nI _) (L2 := [some (.ref (b + 77)), some (.int (nI (sS (coS lw wd hg (mv gr) (mv mk)) wd hg 0))), some (.int (nI (u + 2))), none]) rfl ?_
                          refine r_goto (tgt := 200) X eX6_laySeam_230 (by decide) ?_
                          exact ih9 (u + 1) (upd se2 (u + 1) (nI (sS (coS lw wd hg (mv gr) (mv mk)) wd hg (u + 1)))) w11 (by omega) (fun j hj => upd_nx2 hz hj) n7_w11 m1_w11 m2_w11 m3_w11 m4_w11 m5_w11 m6_w11 m7_w11 n11_w11 m9_w11 m10_w11 fr_w11 (by omega)
                    exact lp9 _ 0 (upd se 0 (nI (sS (coS lw wd hg (mv gr) (mv mk)) wd hg 0))) w8 (by omega) (fun j hj => by rw [Nat.le_zero.mp hj]; exact upd_self) n7_w8 m1_w8 m2_w8 m3_w8 m4_w8 m5_w8 m6_w8 m7_w8 n8_w8 m9_w8 m10_w8 fr_w8 (Nat.lt_succ_self _)
                  ·
                    refine r_aload_n X eX6_laySeam_118 rfl ?_
                    refine r_iload_n X eX6_laySeam_119 rfl ?_
                    refine r_iconst X eX6_laySeam_120 (nI 0) (by decide) ?_
                    refine r_iload_n X eX6_laySeam_121 rfl ?_
                    refine cp_X6_87 X eX6_laySeam_122 (c_X6_costOf _ G b N w3 hN n wd hg sc kc bc bo ag bk st ims kf sg gr mk rs2 se tt tc ⟨m0_w3, m1_w3, m2_w3, m3_w3, m4_w3, m5_w3, m6_w3, m7_w3, m8_w3, m9_w3, m10_w3⟩ (i + 1) 0 (by omega) (by omega) h8 h9 lw hlw hst (i + 1) (by omega)) (by decide) (by omega) m0_w3 rfl (Nat.le_of_ble_eq_true rfl) ?_
                    refine r_aload_n X eX6_laySeam_125 rfl ?_
                    refine gf_X6_29 X eX6_laySeam_126 (by omega) m0_w3 ?_
                    refine r_iload_n X eX6_laySeam_129 rfl ?_
                    refine r_iconst X eX6_laySeam_130 (nI 0) (by decide) ?_
                    refine cp_X6_52 X eX6_laySeam_131 (c_X6_at _ G b N w3 (i + 1) 0) (by decide) rfl (Nat.le_of_ble_eq_true rfl) ?_
                    refine r_iald X eX6_laySeam_134 (by omega) m7_w3 (by omega) (by decide) ?_
                    refine r_iadd X eX6_laySeam_135 ((coS lw wd hg (mv gr) (mv mk) 0 (i + 1) (i + 1)) + (rs2 (8 * 0 + (i + 1)))) rfl ?_
                    refine r_aload_n X eX6_laySeam_136 rfl ?_
                    refine r_iload_n X eX6_laySeam_137 rfl ?_
                    refine r_iconst X eX6_laySeam_138 (nI 0) (by decide) ?_
                    refine r_iload_n X eX6_laySeam_139 rfl ?_
                    refine cp_X6_87 X eX6_laySeam_140 (c_X6_costOf _ G b N w3 hN n wd hg sc kc bc bo ag bk st ims kf sg gr mk rs2 se tt tc ⟨m0_w3, m1_w3, m2_w3, m3_w3, m4_w3, m5_w3, m6_w3, m7_w3, m8_w3, m9_w3, m10_w3⟩ v 0 (by omega) (by omega) h8 h9 lw hlw hst v (by omega)) (by decide) (by omega) m0_w3 rfl (Nat.le_of_ble_eq_true rfl) ?_
                    refine r_aload_n X eX6_laySeam_143 rfl ?_
                    refine gf_X6_29 X eX6_laySeam_144 (by omega) m0_w3 ?_
                    refine r_iload_n X eX6_laySeam_147 rfl ?_
                    refine r_iconst X eX6_laySeam_148 (nI 0) (by decide) ?_
                    refine cp_X6_52 X eX6_laySeam_149 (c_X6_at _ G b N w3 v 0) (by decide) rfl (Nat.le_of_ble_eq_true rfl) ?_
                    refine r_iald X eX6_laySeam_152 (by omega) m7_w3 (by omega) (by decide) ?_
                    refine r_iadd X eX6_laySeam_153 ((coS lw wd hg (mv gr) (mv mk) 0 v v) + (rs2 (8 * 0 + v))) rfl ?_
                    refine r_icmp_ge (tgt := 161) X eX6_laySeam_154 (by decide) rfl rfl (fun c_12 => ?_) (fun c_12 => ?_)
                    ·
                      refine r_iload_n X eX6_laySeam_161 rfl ?_
                      refine r_istore_n X eX6_laySeam_162 (Nat.le_of_ble_eq_true rfl) (L2 := [some (.ref (b + 77)), some (.int (nI v)), some (.int (nI (i + 1))), none]) rfl ?_
                      refine r_iinc X eX6_laySeam_163 rfl (nI (i + 2)) (inc_nI _) (L2 := [some (.ref (b + 77)), some (.int (nI v)), some (.int (nI (i + 2))), none]) rfl ?_
                      refine r_goto (tgt := 110) X eX6_laySeam_166 (by decide) ?_
                      exact ih5 (i + 1) v  (by omega) (am_f (f := (fun p => coS lw wd hg (mv gr) (mv mk) 0 p p + rs2 (8 * 0 + p))) hv c_12) (by omega)  (by omega)
                    ·
                      refine r_iload_n X eX6_laySeam_157 rfl ?_
                      refine r_goto (tgt := 162) X eX6_laySeam_158 (by decide) ?_
                      refine r_istore_n X eX6_laySeam_162 (Nat.le_of_ble_eq_true rfl) (L2 := [some (.ref (b + 77)), some (.int (nI (i + 1))), some (.int (nI (i + 1))), none]) rfl ?_
                      refine r_iinc X eX6_laySeam_163 rfl (nI (i + 2)) (inc_nI _) (L2 := [some (.ref (b + 77)), some (.int (nI (i + 1))), some (.int (nI (i + 2))), none]) rfl ?_
                      refine r_goto (tgt := 110) X eX6_laySeam_166 (by decide) ?_
                      exact ih5 (i + 1) (i + 1)  (by omega) (am_t (f := (fun p => coS lw wd hg (mv gr) (mv mk) 0 p p + rs2 (8 * 0 + p))) hv c_12) (by omega)  (by omega)
              exact lp5 _ 0 0  (by omega) rfl (by omega)  (Nat.lt_succ_self _)
            ·
              rw [nP_pos (show 0 < t by omega)]
              refine r_iconst X eX6_laySeam_43 (nI 0) (by decide) ?_
              refine r_istore_n X eX6_laySeam_44 (Nat.le_of_ble_eq_true rfl) (L2 := [some (.ref (b + 77)), some (.int (nI (t - 1))), some (.int (nI 0)), none]) rfl ?_
              have lp13 : ∀ (fu : Nat) (p : Nat) (rs3 : Nat → Int32) (w13 : Wd), (p ≤ wd) → (RI (coS lw wd hg (mv gr) (mv mk)) wd hg t p rs3) → (w13 77 = .inr (6, [.ref (b + 78), .ref (b + 79), .ref (b + 80), .ref (b + 81), .int (nI n), .ref (b + 82), .ref (b + 83), .int (nI wd), .int (nI hg), .ref (b + 84), .ref (b + 85), .int sc, .int kc, .int bc, .int bo, .int ag, .int bk, .ref (b + 86), .ref (b + 87)])) → (w13 78 = aI G 131 st) → (w13 79 = aI G 262 ims) → (w13 80 = aZ G 2 kf) → (w13 81 = aI G 80 sg) → (w13 82 = aI G 64 gr) → (w13 83 = aI G 64 mk) → (w13 84 = aI G 64 rs3) → (w13 85 = aI G 8 se) → (w13 86 = aI G 6272 tt) → (w13 87 = aI G 49 tc) → (∀ j, (j < 77 ∨ 88 ≤ j) → w13 j = w j) → wd - p < fu → V κ G b (N, 0, 0) w13 45 [some (.ref (b + 77)), some (.int (nI (t - 1))), some (.int (nI p)), none] [] := by
                intro fu
                induction fu with
                | zero => intro p rs3 w13 hp hR3 m0_w13 m1_w13 m2_w13 m3_w13 m4_w13 m5_w13 m6_w13 m7_w13 m8_w13 m9_w13 m10_w13 fr_w13 hm; exact absurd hm (Nat.not_lt_zero _)
                | succ fu ih13 =>
                  intro p rs3 w13 hp hR3 m0_w13 m1_w13 m2_w13 m3_w13 m4_w13 m5_w13 m6_w13 m7_w13 m8_w13 m9_w13 m10_w13 fr_w13 hm
                  refine r_iload_n X eX6_laySeam_45 rfl ?_
                  refine r_aload_n X eX6_laySeam_46 rfl ?_
                  refine gf_X6_45 X eX6_laySeam_47 (by omega) m0_w13 ?_
                  refine r_icmp_ge (tgt := 100) X eX6_laySeam_50 (by decide) (nI_toInt (by omega)) (nI_toInt (by omega)) (fun c_14 => ?_) (fun c_14 => ?_)
                  ·
                    refine r_iinc X eX6_laySeam_100 rfl (nP (t - 1)) (dec_nI _) (L2 := [some (.ref (b + 77)), some (.int (nP (t - 1))), some (.int (nI p)), none]) rfl ?_
                    refine r_goto (tgt := 39) X eX6_laySeam_103 (by decide) ?_
                    refine r_fg 2 (L2 := [some (.ref (b + 77)), some (.int (nP (t - 1))), none, none]) rfl ?_
                    exact ih3 (t - 1) rs3 w13 (by omega) (RI_out (by omega) hR3) m0_w13 m1_w13 m2_w13 m3_w13 m4_w13 m5_w13 m6_w13 m7_w13 m8_w13 m9_w13 m10_w13 fr_w13 (by omega)
                  ·
                    refine r_aload_n X eX6_laySeam_53 rfl ?_
                    refine r_iload_n X eX6_laySeam_54 rfl ?_
                    refine r_iload_n X eX6_laySeam_55 rfl ?_
                    refine r_iconst X eX6_laySeam_56 (nI 1) (by decide) ?_
                    refine r_iadd X eX6_laySeam_57 (nI t) (addN (by omega)) ?_
                    refine cp_X6_91 X eX6_laySeam_58 (c_X6_nextFrom _ G b N w13 hN n wd hg sc kc bc bo ag bk st ims kf sg gr mk rs3 se tt tc ⟨m0_w13, m1_w13, m2_w13, m3_w13, m4_w13, m5_w13, m6_w13, m7_w13, m8_w13, m9_w13, m10_w13⟩ p t (by omega) (by omega) h8 h9 lw hlw hst) (by decide) (by omega) m0_w13 rfl (Nat.le_of_ble_eq_true rfl) ?_
                    refine r_top (y := nI (gN (coS lw wd hg (mv gr) (mv mk)) wd hg (t - 1) p)) (congrArg nI (nx_gN (by omega) (by omega) (fun q hq => hR3 t q (by omega) hq (Or.inl (Nat.le_refl t))) (by omega))) ?_
                    refine r_istore_n X eX6_laySeam_61 (Nat.le_of_ble_eq_true rfl) (L2 := [some (.ref (b + 77)), some (.int (nI (t - 1))), some (.int (nI p)), some (.int (nI (gN (coS lw wd hg (mv gr) (mv mk)) wd hg (t - 1) p)))]) rfl ?_
                    have hgl := gN_lt (c := coS lw wd hg (mv gr) (mv mk)) (nb := wd) (nl := hg) (l := t - 1) (show p < wd by omega)
                    refine r_aload_n X eX6_laySeam_62 rfl ?_
                    refine gf_X6_29 X eX6_laySeam_63 (by omega) m0_w13 ?_
                    refine r_iload_n X eX6_laySeam_66 rfl ?_
                    refine r_iload_n X eX6_laySeam_67 rfl ?_
                    refine cp_X6_52 X eX6_laySeam_68 (c_X6_at _ G b N w13 p (t - 1)) (by decide) rfl (Nat.le_of_ble_eq_true rfl) ?_
                    refine r_aload_n X eX6_laySeam_71 rfl ?_
                    refine r_iload_n X eX6_laySeam_72 rfl ?_
                    refine r_iload_n X eX6_laySeam_73 rfl ?_
                    refine r_iconst X eX6_laySeam_74 (nI 1) (by decide) ?_
                    refine r_iadd X eX6_laySeam_75 (nI t) (addN (by omega)) ?_
                    refine r_iload_n X eX6_laySeam_76 rfl ?_
                    refine cp_X6_87 X eX6_laySeam_77 (c_X6_costOf _ G b N w13 hN n wd hg sc kc bc bo ag bk st ims kf sg gr mk rs3 se tt tc ⟨m0_w13, m1_w13, m2_w13, m3_w13, m4_w13, m5_w13, m6_w13, m7_w13, m8_w13, m9_w13, m10_w13⟩ (gN (coS lw wd hg (mv gr) (mv mk)) wd hg (t - 1) p) t (by omega) (by omega) h8 h9 lw hlw hst p (by omega)) (by decide) (by omega) m0_w13 rfl (Nat.le_of_ble_eq_true rfl) ?_
                    refine r_aload_n X eX6_laySeam_80 rfl ?_
                    refine gf_X6_29 X eX6_laySeam_81 (by omega) m0_w13 ?_
                    refine r_iload_n X eX6_laySeam_84 rfl ?_
                    refine r_iload_n X eX6_laySeam_85 rfl ?_
                    refine r_iconst X eX6_laySeam_86 (nI 1) (by decide) ?_
                    refine r_iadd X eX6_laySeam_87 (nI t) (addN (by omega)) ?_
                    refine cp_X6_52 X eX6_laySeam_88 (c_X6_at _ G b N w13 (gN (coS lw wd hg (mv gr) (mv mk)) wd hg (t - 1) p) t) (by decide) rfl (Nat.le_of_ble_eq_true rfl) ?_
                    refine r_iald X eX6_laySeam_91 (by omega) m7_w13 (by omega) (by decide) ?_
                    refine r_iadd X eX6_laySeam_92 ((coS lw wd hg (mv gr) (mv mk) t (gN (coS lw wd hg (mv gr) (mv mk)) wd hg (t - 1) p) p) + (rs3 (8 * t + (gN (coS lw wd hg (mv gr) (mv mk)) wd hg (t - 1) p)))) rfl ?_
                    refine r_iast X eX6_laySeam_93 (by omega) m7_w13 (by omega) (by decide) (fun w15 n15_w15 uu15 => ?_)
                    have m0_w15 := (uu15 77 (by omega)).trans m0_w13
                    have m1_w15 := (uu15 78 (by omega)).trans m1_w13
                    have m2_w15 := (uu15 79 (by omega)).trans m2_w13
                    have m3_w15 := (uu15 80 (by omega)).trans m3_w13
                    have m4_w15 := (uu15 81 (by omega)).trans m4_w13
                    have m5_w15 := (uu15 82 (by omega)).trans m5_w13
                    have m6_w15 := (uu15 83 (by omega)).trans m6_w13
                    have m8_w15 := (uu15 85 (by omega)).trans m8_w13
                    have m9_w15 := (uu15 86 (by omega)).trans m9_w13
                    have m10_w15 := (uu15 87 (by omega)).trans m10_w13
                    have fr_w15 : ∀ j, (j < 77 ∨ 88 ≤ j) → w15 j = w j := fun j hj => (uu15 j (by omega)).trans (fr_w13 j hj)
                    refine r_iinc X eX6_laySeam_94 rfl (nI (p + 1)) (inc_nI _) (L2 := [some (.ref (b + 77)), some (.int (nI (t - 1))), some (.int (nI (p + 1))), some (.int (nI (gN (coS lw wd hg (mv gr) (mv mk)) wd hg (t - 1) p)))]) rfl ?_
                    refine r_goto (tgt := 45) X eX6_laySeam_97 (by decide) ?_
                    refine r_fg 3 (L2 := [some (.ref (b + 77)), some (.int (nI (t - 1))), some (.int (nI (p + 1))), none]) rfl ?_
                    exact ih13 (p + 1) (upd rs3 (8 * (t - 1) + p) ((coS lw wd hg (mv gr) (mv mk) t (gN (coS lw wd hg (mv gr) (mv mk)) wd hg (t - 1) p) p) + (rs3 (8 * t + (gN (coS lw wd hg (mv gr) (mv mk)) wd hg (t - 1) p))))) w15 (by omega) (RI_st (by omega) (by omega) (by omega) (by omega) hR3 rfl) m0_w15 m1_w15 m2_w15 m3_w15 m4_w15 m5_w15 m6_w15 n15_w15 m8_w15 m9_w15 m10_w15 fr_w15 (by omega)
              exact lp13 _ 0 rs2 w3 (by omega) hR m0_w3 m1_w3 m2_w3 m3_w3 m4_w3 m5_w3 m6_w3 m7_w3 m8_w3 m9_w3 m10_w3 fr_w3 (Nat.lt_succ_self _)
        exact lp3 _ (hg - 1) rs1 w1 (Nat.le_refl _) (fun l q hl hq hc => by have hl2 : l = hg - 1 := (by omega); rw [hl2, Nat.sub_self]; exact hz q (by omega)) m0_w1 m1_w1 m2_w1 m3_w1 m4_w1 m5_w1 m6_w1 m7_w1 m8_w1 m9_w1 m10_w1 fr_w1 (Nat.lt_succ_self _)
      ·
        refine r_aload_n X eX6_laySeam_10 rfl ?_
        refine gf_X6_29 X eX6_laySeam_11 (by omega) m0_w1 ?_
        refine r_iload_n X eX6_laySeam_14 rfl ?_
        refine r_aload_n X eX6_laySeam_15 rfl ?_
        refine gf_X6_49 X eX6_laySeam_16 (by omega) m0_w1 ?_
        refine r_iconst X eX6_laySeam_19 (nI 1) (by decide) ?_
        refine r_isub X eX6_laySeam_20 (nI (hg - 1)) (pk_sub (by omega)) ?_
        refine cp_X6_52 X eX6_laySeam_21 (c_X6_at _ G b N w1 x (hg - 1)) (by decide) rfl (Nat.le_of_ble_eq_true rfl) ?_
        refine r_iconst X eX6_laySeam_24 ((0 : Int32)) (by decide) ?_
        refine r_iast X eX6_laySeam_25 (by omega) m7_w1 (by omega) (by decide) (fun w16 n16_w16 uu16 => ?_)
        have m0_w16 := (uu16 77 (by omega)).trans m0_w1
        have m1_w16 := (uu16 78 (by omega)).trans m1_w1
        have m2_w16 := (uu16 79 (by omega)).trans m2_w1
        have m3_w16 := (uu16 80 (by omega)).trans m3_w1
        have m4_w16 := (uu16 81 (by omega)).trans m4_w1
        have m5_w16 := (uu16 82 (by omega)).trans m5_w1
        have m6_w16 := (uu16 83 (by omega)).trans m6_w1
        have m8_w16 := (uu16 85 (by omega)).trans m8_w1
        have m9_w16 := (uu16 86 (by omega)).trans m9_w1
        have m10_w16 := (uu16 87 (by omega)).trans m10_w1
        have fr_w16 : ∀ j, (j < 77 ∨ 88 ≤ j) → w16 j = w j := fun j hj => (uu16 j (by omega)).trans (fr_w1 j hj)
        refine r_iinc X eX6_laySeam_26 rfl (nI (x + 1)) (inc_nI _) (L2 := [some (.ref (b + 77)), some (.int (nI (x + 1))), none, none]) rfl ?_
        refine r_goto (tgt := 2) X eX6_laySeam_29 (by decide) ?_
        exact ih1 (x + 1) (upd rs1 (8 * (hg - 1) + x) ((0 : Int32))) w16 (by omega) (fun q hq => z_st hz hq) m0_w16 m1_w16 m2_w16 m3_w16 m4_w16 m5_w16 m6_w16 n16_w16 m8_w16 m9_w16 m10_w16 fr_w16 (by omega)
  exact lp1 _ 0 rs w (by omega) (fun q hq => absurd hq (by omega)) m0 m1 m2 m3 m4 m5 m6 m7 m8 m9 m10 fr_w (Nat.lt_succ_self _)
set_option maxHeartbeats 4000000 in
set_option maxRecDepth 100000 in
theorem c_X6_move (l : Launch) (G : Gs) (b N : Nat) (w : Wd) (hN : 88 ≤ N) (n wd hg : Nat) (sc kc bc bo ag bk : Int32) (st ims kf sg gr mk rs se tt tc : Nat → Int32) (hm : mW G b w n wd hg sc kc bc bo ag bk st ims kf sg gr mk rs se tt tc) (y fr to : Nat) (hy : y < 8) (hf : fr < 8) (ht : to < 8) : CV l yX6_move cX6_move 4 1 G b N w [.ref (b + 77), .int (nI y), .int (nI fr), .int (nI to)] (fun w2 => mW G b w2 n wd hg sc kc bc bo ag bk st ims kf sg (upd gr (ix 0 y to) (gr (ix 0 y fr))) (upd mk (ix 0 y to) (mk (ix 0 y fr))) rs se tt tc ∧ ∀ j, (j < 77 ∨ 88 ≤ j) → w2 j = w j) := by
  obtain ⟨m0, m1, m2, m3, m4, m5, m6, m7, m8, m9, m10⟩ := hm
  refine CV_of (L0 := [some (.ref (b + 77)), some (.int (nI y)), some (.int (nI fr)), some (.int (nI to))]) (by decide) rfl (by simp [Value.category]) rfl (Nat.le_of_ble_eq_true rfl) (fun κ X ret => ?_)
  have fr_w : ∀ j, (j < 77 ∨ 88 ≤ j) → w j = w j := fun _ _ => rfl
  refine r_aload_n X eX6_move_0 rfl ?_
  refine gf_X6_23 X eX6_move_1 (by omega) m0 ?_
  refine r_iload_n X eX6_move_4 rfl ?_
  refine r_iload_n X eX6_move_5 rfl ?_
  refine cp_X6_52 X eX6_move_6 (c_X6_at _ G b N w to y) (by decide) rfl (Nat.le_of_ble_eq_true rfl) ?_
  refine r_aload_n X eX6_move_9 rfl ?_
  refine gf_X6_23 X eX6_move_10 (by omega) m0 ?_
  refine r_iload_n X eX6_move_13 rfl ?_
  refine r_iload_n X eX6_move_14 rfl ?_
  refine cp_X6_52 X eX6_move_15 (c_X6_at _ G b N w fr y) (by decide) rfl (Nat.le_of_ble_eq_true rfl) ?_
  refine r_iald X eX6_move_18 (by omega) m5 (by omega) (by decide) ?_
  refine r_iast X eX6_move_19 (by omega) m5 (by omega) (by decide) (fun w1 n1_w1 uu1 => ?_)
  have m0_w1 := (uu1 77 (by omega)).trans m0
  have m1_w1 := (uu1 78 (by omega)).trans m1
  have m2_w1 := (uu1 79 (by omega)).trans m2
  have m3_w1 := (uu1 80 (by omega)).trans m3
  have m4_w1 := (uu1 81 (by omega)).trans m4
  have m6_w1 := (uu1 83 (by omega)).trans m6
  have m7_w1 := (uu1 84 (by omega)).trans m7
  have m8_w1 := (uu1 85 (by omega)).trans m8
  have m9_w1 := (uu1 86 (by omega)).trans m9
  have m10_w1 := (uu1 87 (by omega)).trans m10
  have fr_w1 : ∀ j, (j < 77 ∨ 88 ≤ j) → w1 j = w j := fun j hj => (uu1 j (by omega)).trans (fr_w j hj)
  refine r_aload_n X eX6_move_20 rfl ?_
  refine gf_X6_26 X eX6_move_21 (by omega) m0_w1 ?_
  refine r_iload_n X eX6_move_24 rfl ?_
  refine r_iload_n X eX6_move_25 rfl ?_
  refine cp_X6_52 X eX6_move_26 (c_X6_at _ G b N w1 to y) (by decide) rfl (Nat.le_of_ble_eq_true rfl) ?_
  refine r_aload_n X eX6_move_29 rfl ?_
  refine gf_X6_26 X eX6_move_30 (by omega) m0_w1 ?_
  refine r_iload_n X eX6_move_33 rfl ?_
  refine r_iload_n X eX6_move_34 rfl ?_
  refine cp_X6_52 X eX6_move_35 (c_X6_at _ G b N w1 fr y) (by decide) rfl (Nat.le_of_ble_eq_true rfl) ?_
  refine r_iald X eX6_move_38 (by omega) m6_w1 (by omega) (by decide) ?_
  refine r_iast X eX6_move_39 (by omega) m6_w1 (by omega) (by decide) (fun w2 n2_w2 uu2 => ?_)
  have m0_w2 := (uu2 77 (by omega)).trans m0_w1
  have m1_w2 := (uu2 78 (by omega)).trans m1_w1
  have m2_w2 := (uu2 79 (by omega)).trans m2_w1
  have m3_w2 := (uu2 80 (by omega)).trans m3_w1
  have m4_w2 := (uu2 81 (by omega)).trans m4_w1
  have n1_w2 := (uu2 82 (by omega)).trans n1_w1
  have m7_w2 := (uu2 84 (by omega)).trans m7_w1
  have m8_w2 := (uu2 85 (by omega)).trans m8_w1
  have m9_w2 := (uu2 86 (by omega)).trans m9_w1
  have m10_w2 := (uu2 87 (by omega)).trans m10_w1
  have fr_w2 : ∀ j, (j < 77 ∨ 88 ≤ j) → w2 j = w j := fun j hj => (uu2 j (by omega)).trans (fr_w1 j hj)
  exact ret _ _ _ _ eX6_move_40 (by rw [← at_ix, ← at_ix]; exact ⟨⟨m0_w2, m1_w2, m2_w2, m3_w2, m4_w2, n1_w2, n2_w2, m7_w2, m8_w2, m9_w2, m10_w2⟩, fr_w2⟩)
set_option maxHeartbeats 4000000 in
set_option maxRecDepth 100000 in
theorem c_X6_cutSeam (l : Launch) (G : Gs) (b N : Nat) (w : Wd) (hN : 88 ≤ N) (n wd hg : Nat) (sc kc bc bo ag bk : Int32) (st ims kf sg gr mk rs se tt tc : Nat → Int32) (hm : mW G b w n wd hg sc kc bc bo ag bk st ims kf sg gr mk rs se tt tc) (h2 : 2 ≤ wd) (h8 : wd ≤ 8) (g2 : 2 ≤ hg) (h9 : hg ≤ 8) (s : Nat → Nat) (hok : okP se s hg wd) : CV l yX6_cutSeam cX6_cutSeam 3 2 G b N w [.ref (b + 77)] (fun w2 => ∃ gr2 mk2, mW G b w2 n (wd - 1) hg sc (kc + sm (fun l => if mv mk l (s l) = 1 then 1 else 0) hg) bc bo ag bk st ims kf sg gr2 mk2 rs se tt tc ∧ (∀ l p, l < hg → p < wd - 1 → mv gr2 l p = shS s (mv gr) l p ∧ mv mk2 l p = shS s (mv mk) l p) ∧ ∀ j, (j < 77 ∨ 88 ≤ j) → w2 j = w j) := by
  obtain ⟨m0, m1, m2, m3, m4, m5, m6, m7, m8, m9, m10⟩ := hm
  refine CV_of (L0 := [some (.ref (b + 77)), none, none]) (by decide) rfl (by simp [Value.category]) rfl (Nat.le_of_ble_eq_true rfl) (fun κ X ret => ?_)
  have fr_w : ∀ j, (j < 77 ∨ 88 ≤ j) → w j = w j := fun _ _ => rfl
  refine r_iconst X eX6_cutSeam_0 (nI 0) (by decide) ?_
  refine r_istore_n X eX6_cutSeam_1 (Nat.le_of_ble_eq_true rfl) (L2 := [some (.ref (b + 77)), some (.int (nI 0)), none]) rfl ?_
  have lp1 : ∀ (fu : Nat) (y : Nat) (c : Int32) (A M : Nat → Int32) (w1 : Wd), (y ≤ hg) → (c = kc + sm (fun l => if mv mk l (s l) = 1 then 1 else 0) y) → (CutI 0 gr s hg wd y 0 A) → (CutI 0 mk s hg wd y 0 M) → (w1 77 = .inr (6, [.ref (b + 78), .ref (b + 79), .ref (b + 80), .ref (b + 81), .int (nI n), .ref (b + 82), .ref (b + 83), .int (nI wd), .int (nI hg), .ref (b + 84), .ref (b + 85), .int sc, .int c, .int bc, .int bo, .int ag, .int bk, .ref (b + 86), .ref (b + 87)])) → (w1 78 = aI G 131 st) → (w1 79 = aI G 262 ims) → (w1 80 = aZ G 2 kf) → (w1 81 = aI G 80 sg) → (w1 82 = aI G 64 A) → (w1 83 = aI G 64 M) → (w1 84 = aI G 64 rs) → (w1 85 = aI G 8 se) → (w1 86 = aI G 6272 tt) → (w1 87 = aI G 49 tc) → (∀ j, (j < 77 ∨ 88 ≤ j) → w1 j = w j) → hg - y < fu → V κ G b (N, 0, 0) w1 2 [some (.ref (b + 77)), some (.int (nI y)), none] [] := by
    intro fu
    induction fu with
    | zero => intro y c A M w1 hy hc hA hM m0_w1 m1_w1 m2_w1 m3_w1 m4_w1 m5_w1 m6_w1 m7_w1 m8_w1 m9_w1 m10_w1 fr_w1 hm; exact absurd hm (Nat.not_lt_zero _)
    | succ fu ih1 =>
      intro y c A M w1 hy hc hA hM m0_w1 m1_w1 m2_w1 m3_w1 m4_w1 m5_w1 m6_w1 m7_w1 m8_w1 m9_w1 m10_w1 fr_w1 hm
      refine r_iload_n X eX6_cutSeam_2 rfl ?_
      refine r_aload_n X eX6_cutSeam_3 rfl ?_
      refine gf_X6_49 X eX6_cutSeam_4 (by omega) m0_w1 ?_
      refine r_icmp_ge (tgt := 81) X eX6_cutSeam_7 (by decide) (nI_toInt (by omega)) (nI_toInt (by omega)) (fun c_2 => ?_) (fun c_2 => ?_)
      ·
        refine r_aload_n X eX6_cutSeam_81 rfl ?_
        refine r_dup X eX6_cutSeam_82 rfl ?_
        refine gf_X6_45 X eX6_cutSeam_83 (by omega) m0_w1 ?_
        refine r_iconst X eX6_cutSeam_86 (nI 1) (by decide) ?_
        refine r_isub X eX6_cutSeam_87 (nI (wd - 1)) (pk_sub (by omega)) ?_
        refine pf_X6_45 X eX6_cutSeam_88 (by omega) m0_w1 (fun w3 n3_w3 uu3 => ?_)
        have m1_w3 := (uu3 78 (by omega)).trans m1_w1
        have m2_w3 := (uu3 79 (by omega)).trans m2_w1
        have m3_w3 := (uu3 80 (by omega)).trans m3_w1
        have m4_w3 := (uu3 81 (by omega)).trans m4_w1
        have m5_w3 := (uu3 82 (by omega)).trans m5_w1
        have m6_w3 := (uu3 83 (by omega)).trans m6_w1
        have m7_w3 := (uu3 84 (by omega)).trans m7_w1
        have m8_w3 := (uu3 85 (by omega)).trans m8_w1
        have m9_w3 := (uu3 86 (by omega)).trans m9_w1
        have m10_w3 := (uu3 87 (by omega)).trans m10_w1
        have fr_w3 : ∀ j, (j < 77 ∨ 88 ≤ j) → w3 j = w j := fun j hj => (uu3 j (by omega)).trans (fr_w1 j hj)
        exact ret _ _ _ _ eX6_cutSeam_91 (⟨A, M, by rw [← show c = kc + sm (fun l => if mv mk l (s l) = 1 then 1 else 0) hg by rw [hc, show y = hg by omega]]; exact ⟨n3_w3, m1_w3, m2_w3, m3_w3, m4_w3, m5_w3, m6_w3, m7_w3, m8_w3, m9_w3, m10_w3⟩, fun l p h1 h2 => by rw [mv_eq, mv_eq, mv_eq, mv_eq]; exact ⟨CutI_end (by omega) hA l p h1 h2, CutI_end (by omega) hM l p h1 h2⟩, fr_w3⟩)
      ·
        have hsy := (hok y (by omega)).2
        refine r_aload_n X eX6_cutSeam_10 rfl ?_
        refine r_dup X eX6_cutSeam_11 rfl ?_
        refine gf_X6_103 X eX6_cutSeam_12 (by omega) m0_w1 ?_
        refine r_aload_n X eX6_cutSeam_15 rfl ?_
        refine gf_X6_26 X eX6_cutSeam_16 (by omega) m0_w1 ?_
        refine r_aload_n X eX6_cutSeam_19 rfl ?_
        refine gf_X6_32 X eX6_cutSeam_20 (by omega) m0_w1 ?_
        refine r_iload_n X eX6_cutSeam_23 rfl ?_
        refine r_iald X eX6_cutSeam_24 (by omega) m8_w1 (by omega) (by decide) ?_
        refine r_top (y := nI (s y)) (hok y (by omega)).1 ?_
        refine r_iload_n X eX6_cutSeam_25 rfl ?_
        refine cp_X6_52 X eX6_cutSeam_26 (c_X6_at _ G b N w1 (s y) y) (by decide) rfl (Nat.le_of_ble_eq_true rfl) ?_
        refine r_iald X eX6_cutSeam_29 (by omega) m6_w1 (by omega) (by decide) ?_
        refine r_top (y := mv mk y (s y)) (by have hh := hM y (s y) (by omega) hsy; rw [if_neg (by omega)] at hh; rw [at_ix, mv, at_ix]; exact hh) ?_
        refine r_iconst X eX6_cutSeam_30 ((1 : Int32)) (by decide) ?_
        refine r_icmp_ne (tgt := 38) X eX6_cutSeam_31 (by decide) rfl rfl (fun c_4 => ?_) (fun c_4 => ?_)
        ·
          refine r_iconst X eX6_cutSeam_38 (nI 0) (by decide) ?_
          refine r_iadd X eX6_cutSeam_39 (c + (nI 0)) rfl ?_
          refine pf_X6_103 X eX6_cutSeam_40 (by omega) m0_w1 (fun w5 n5_w5 uu5 => ?_)
          have m1_w5 := (uu5 78 (by omega)).trans m1_w1
          have m2_w5 := (uu5 79 (by omega)).trans m2_w1
          have m3_w5 := (uu5 80 (by omega)).trans m3_w1
          have m4_w5 := (uu5 81 (by omega)).trans m4_w1
          have m5_w5 := (uu5 82 (by omega)).trans m5_w1
          have m6_w5 := (uu5 83 (by omega)).trans m6_w1
          have m7_w5 := (uu5 84 (by omega)).trans m7_w1
          have m8_w5 := (uu5 85 (by omega)).trans m8_w1
          have m9_w5 := (uu5 86 (by omega)).trans m9_w1
          have m10_w5 := (uu5 87 (by omega)).trans m10_w1
          have fr_w5 : ∀ j, (j < 77 ∨ 88 ≤ j) → w5 j = w j := fun j hj => (uu5 j (by omega)).trans (fr_w1 j hj)
          refine r_aload_n X eX6_cutSeam_43 rfl ?_
          refine gf_X6_32 X eX6_cutSeam_44 (by omega) n5_w5 ?_
          refine r_iload_n X eX6_cutSeam_47 rfl ?_
          refine r_iald X eX6_cutSeam_48 (by omega) m8_w5 (by omega) (by decide) ?_
          refine r_top (y := nI (s y)) (hok y (by omega)).1 ?_
          refine r_istore_n X eX6_cutSeam_49 (Nat.le_of_ble_eq_true rfl) (L2 := [some (.ref (b + 77)), some (.int (nI y)), some (.int (nI (s y)))]) rfl ?_
          have lp6 : ∀ (fu : Nat) (p : Nat) (d : Int32) (A2 M2 : Nat → Int32) (w6 : Wd), (s y ≤ p) → (p ≤ wd - 1) → (d = kc + sm (fun l => if mv mk l (s l) = 1 then 1 else 0) (y + 1)) → (CutI 0 gr s hg wd y p A2) → (CutI 0 mk s hg wd y p M2) → (w6 77 = .inr (6, [.ref (b + 78), .ref (b + 79), .ref (b + 80), .ref (b + 81), .int (nI n), .ref (b + 82), .ref (b + 83), .int (nI wd), .int (nI hg), .ref (b + 84), .ref (b + 85), .int sc, .int d, .int bc, .int bo, .int ag, .int bk, .ref (b + 86), .ref (b + 87)])) → (w6 78 = aI G 131 st) → (w6 79 = aI G 262 ims) → (w6 80 = aZ G 2 kf) → (w6 81 = aI G 80 sg) → (w6 82 = aI G 64 A2) → (w6 83 = aI G 64 M2) → (w6 84 = aI G 64 rs) → (w6 85 = aI G 8 se) → (w6 86 = aI G 6272 tt) → (w6 87 = aI G 49 tc) → (∀ j, (j < 77 ∨ 88 ≤ j) → w6 j = w j) → wd - p < fu → V κ G b (N, 0, 0) w6 50 [some (.ref (b + 77)), some (.int (nI y)), some (.int (nI p))] [] := by
            intro fu
            induction fu with
            | zero => intro p d A2 M2 w6 hp1 hp2 hd hA2 hM2 n5_w6 m1_w6 m2_w6 m3_w6 m4_w6 m5_w6 m6_w6 m7_w6 m8_w6 m9_w6 m10_w6 fr_w6 hm; exact absurd hm (Nat.not_lt_zero _)
            | succ fu ih6 =>
              intro p d A2 M2 w6 hp1 hp2 hd hA2 hM2 n5_w6 m1_w6 m2_w6 m3_w6 m4_w6 m5_w6 m6_w6 m7_w6 m8_w6 m9_w6 m10_w6 fr_w6 hm
              refine r_iload_n X eX6_cutSeam_50 rfl ?_
              refine r_iconst X eX6_cutSeam_51 (nI 1) (by decide) ?_
              refine r_iadd X eX6_cutSeam_52 (nI (p + 1)) (addN (by omega)) ?_
              refine r_aload_n X eX6_cutSeam_53 rfl ?_
              refine gf_X6_45 X eX6_cutSeam_54 (by omega) n5_w6 ?_
              refine r_icmp_ge (tgt := 75) X eX6_cutSeam_57 (by decide) (nI_toInt (by omega)) (nI_toInt (by omega)) (fun c_7 => ?_) (fun c_7 => ?_)
              ·
                refine r_iinc X eX6_cutSeam_75 rfl (nI (y + 1)) (inc_nI _) (L2 := [some (.ref (b + 77)), some (.int (nI (y + 1))), some (.int (nI p))]) rfl ?_
                refine r_goto (tgt := 2) X eX6_cutSeam_78 (by decide) ?_
                refine r_fg 2 (L2 := [some (.ref (b + 77)), some (.int (nI (y + 1))), none]) rfl ?_
                exact ih1 (y + 1) d A2 M2 w6 (by omega) hd (CutI_out (by omega) hA2) (CutI_out (by omega) hM2) n5_w6 m1_w6 m2_w6 m3_w6 m4_w6 m5_w6 m6_w6 m7_w6 m8_w6 m9_w6 m10_w6 fr_w6 (by omega)
              ·
                refine r_aload_n X eX6_cutSeam_60 rfl ?_
                refine r_iload_n X eX6_cutSeam_61 rfl ?_
                refine r_iload_n X eX6_cutSeam_62 rfl ?_
                refine r_iconst X eX6_cutSeam_63 (nI 1) (by decide) ?_
                refine r_iadd X eX6_cutSeam_64 (nI (p + 1)) (addN (by omega)) ?_
                refine r_iload_n X eX6_cutSeam_65 rfl ?_
                refine cv_X6_106 X eX6_cutSeam_66 (c_X6_move _ G b N w6 hN n wd hg sc d bc bo ag bk st ims kf sg A2 M2 rs se tt tc ⟨n5_w6, m1_w6, m2_w6, m3_w6, m4_w6, m5_w6, m6_w6, m7_w6, m8_w6, m9_w6, m10_w6⟩ y (p + 1) p (by omega) (by omega) (by omega)) (by decide) (by omega) n5_w6 rfl (Nat.le_of_ble_eq_true rfl) (fun w8 hp8 => ?_)
                obtain ⟨⟨y0B, y1B, y2B, y3B, y4B, y5B, y6B, y7B, y8B, y9B, y10B⟩, gB⟩ := hp8
                have m9_w8 : w8 77 = .inr (6, [.ref (b + 78), .ref (b + 79), .ref (b + 80), .ref (b + 81), .int (nI n), .ref (b + 82), .ref (b + 83), .int (nI wd), .int (nI hg), .ref (b + 84), .ref (b + 85), .int sc, .int d, .int bc, .int bo, .int ag, .int bk, .ref (b + 86), .ref (b + 87)]) := y0B
                have m10_w8 : w8 78 = aI G 131 st := y1B
                have m11_w8 : w8 79 = aI G 262 ims := y2B
                have m12_w8 : w8 80 = aZ G 2 kf := y3B
                have m13_w8 : w8 81 = aI G 80 sg := y4B
                have m14_w8 : w8 82 = aI G 64 (upd A2 (ix 0 y p) (A2 (ix 0 y (p + 1)))) := y5B
                have m15_w8 : w8 83 = aI G 64 (upd M2 (ix 0 y p) (M2 (ix 0 y (p + 1)))) := y6B
                have m16_w8 : w8 84 = aI G 64 rs := y7B
                have m17_w8 : w8 85 = aI G 8 se := y8B
                have m18_w8 : w8 86 = aI G 6272 tt := y9B
                have m19_w8 : w8 87 = aI G 49 tc := y10B
                have fr_w8 : ∀ j, (j < 77 ∨ 88 ≤ j) → w8 j = w j := fun j hj => (gB j (by omega)).trans (fr_w6 j hj)
                refine r_iinc X eX6_cutSeam_69 rfl (nI (p + 1)) (inc_nI _) (L2 := [some (.ref (b + 77)), some (.int (nI y)), some (.int (nI (p + 1)))]) rfl ?_
                refine r_goto (tgt := 50) X eX6_cutSeam_72 (by decide) ?_
                exact ih6 (p + 1) d (upd A2 (ix 0 y p) (A2 (ix 0 y (p + 1)))) (upd M2 (ix 0 y p) (M2 (ix 0 y (p + 1)))) w8 (by omega) (by omega) hd (CutI_st (by omega) (by omega) (by omega) (by omega) (by omega) hA2) (CutI_st (by omega) (by omega) (by omega) (by omega) (by omega) hM2) m9_w8 m10_w8 m11_w8 m12_w8 m13_w8 m14_w8 m15_w8 m16_w8 m17_w8 m18_w8 m19_w8 fr_w8 (by omega)
          exact lp6 _ (s y) (c + (nI 0)) A M w5 (by omega) (by omega) (by rw [hc, Int32.add_assoc, sm, if_neg (fun q => c_4 (congrArg Int32.toInt q))]; rfl) (CutI_in hA) (CutI_in hM) n5_w5 m1_w5 m2_w5 m3_w5 m4_w5 m5_w5 m6_w5 m7_w5 m8_w5 m9_w5 m10_w5 fr_w5 (Nat.lt_succ_self _)
        ·
          refine r_iconst X eX6_cutSeam_34 (nI 1) (by decide) ?_
          refine r_goto (tgt := 39) X eX6_cutSeam_35 (by decide) ?_
          refine r_iadd X eX6_cutSeam_39 (c + (nI 1)) rfl ?_
          refine pf_X6_103 X eX6_cutSeam_40 (by omega) m0_w1 (fun w20 n20_w20 uu20 => ?_)
          have m1_w20 := (uu20 78 (by omega)).trans m1_w1
          have m2_w20 := (uu20 79 (by omega)).trans m2_w1
          have m3_w20 := (uu20 80 (by omega)).trans m3_w1
          have m4_w20 := (uu20 81 (by omega)).trans m4_w1
          have m5_w20 := (uu20 82 (by omega)).trans m5_w1
          have m6_w20 := (uu20 83 (by omega)).trans m6_w1
          have m7_w20 := (uu20 84 (by omega)).trans m7_w1
          have m8_w20 := (uu20 85 (by omega)).trans m8_w1
          have m9_w20 := (uu20 86 (by omega)).trans m9_w1
          have m10_w20 := (uu20 87 (by omega)).trans m10_w1
          have fr_w20 : ∀ j, (j < 77 ∨ 88 ≤ j) → w20 j = w j := fun j hj => (uu20 j (by omega)).trans (fr_w1 j hj)
          refine r_aload_n X eX6_cutSeam_43 rfl ?_
          refine gf_X6_32 X eX6_cutSeam_44 (by omega) n20_w20 ?_
          refine r_iload_n X eX6_cutSeam_47 rfl ?_
          refine r_iald X eX6_cutSeam_48 (by omega) m8_w20 (by omega) (by decide) ?_
          refine r_top (y := nI (s y)) (hok y (by omega)).1 ?_
          refine r_istore_n X eX6_cutSeam_49 (Nat.le_of_ble_eq_true rfl) (L2 := [some (.ref (b + 77)), some (.int (nI y)), some (.int (nI (s y)))]) rfl ?_
          have lp21 : ∀ (fu : Nat) (p : Nat) (d : Int32) (A2 M2 : Nat → Int32) (w21 : Wd), (s y ≤ p) → (p ≤ wd - 1) → (d = kc + sm (fun l => if mv mk l (s l) = 1 then 1 else 0) (y + 1)) → (CutI 0 gr s hg wd y p A2) → (CutI 0 mk s hg wd y p M2) → (w21 77 = .inr (6, [.ref (b + 78), .ref (b + 79), .ref (b + 80), .ref (b + 81), .int (nI n), .ref (b + 82), .ref (b + 83), .int (nI wd), .int (nI hg), .ref (b + 84), .ref (b + 85), .int sc, .int d, .int bc, .int bo, .int ag, .int bk, .ref (b + 86), .ref (b + 87)])) → (w21 78 = aI G 131 st) → (w21 79 = aI G 262 ims) → (w21 80 = aZ G 2 kf) → (w21 81 = aI G 80 sg) → (w21 82 = aI G 64 A2) → (w21 83 = aI G 64 M2) → (w21 84 = aI G 64 rs) → (w21 85 = aI G 8 se) → (w21 86 = aI G 6272 tt) → (w21 87 = aI G 49 tc) → (∀ j, (j < 77 ∨ 88 ≤ j) → w21 j = w j) → wd - p < fu → V κ G b (N, 0, 0) w21 50 [some (.ref (b + 77)), some (.int (nI y)), some (.int (nI p))] [] := by
            intro fu
            induction fu with
            | zero => intro p d A2 M2 w21 hp1 hp2 hd hA2 hM2 n20_w21 m1_w21 m2_w21 m3_w21 m4_w21 m5_w21 m6_w21 m7_w21 m8_w21 m9_w21 m10_w21 fr_w21 hm; exact absurd hm (Nat.not_lt_zero _)
            | succ fu ih21 =>
              intro p d A2 M2 w21 hp1 hp2 hd hA2 hM2 n20_w21 m1_w21 m2_w21 m3_w21 m4_w21 m5_w21 m6_w21 m7_w21 m8_w21 m9_w21 m10_w21 fr_w21 hm
              refine r_iload_n X eX6_cutSeam_50 rfl ?_
              refine r_iconst X eX6_cutSeam_51 (nI 1) (by decide) ?_
              refine r_iadd X eX6_cutSeam_52 (nI (p + 1)) (addN (by omega)) ?_
              refine r_aload_n X eX6_cutSeam_53 rfl ?_
              refine gf_X6_45 X eX6_cutSeam_54 (by omega) n20_w21 ?_
              refine r_icmp_ge (tgt := 75) X eX6_cutSeam_57 (by decide) (nI_toInt (by omega)) (nI_toInt (by omega)) (fun c_22 => ?_) (fun c_22 => ?_)
              ·
                refine r_iinc X eX6_cutSeam_75 rfl (nI (y + 1)) (inc_nI _) (L2 := [some (.ref (b + 77)), some (.int (nI (y + 1))), some (.int (nI p))]) rfl ?_
                refine r_goto (tgt := 2) X eX6_cutSeam_78 (by decide) ?_
                refine r_fg 2 (L2 := [some (.ref (b + 77)), some (.int (nI (y + 1))), none]) rfl ?_
                exact ih1 (y + 1) d A2 M2 w21 (by omega) hd (CutI_out (by omega) hA2) (CutI_out (by omega) hM2) n20_w21 m1_w21 m2_w21 m3_w21 m4_w21 m5_w21 m6_w21 m7_w21 m8_w21 m9_w21 m10_w21 fr_w21 (by omega)
              ·
                refine r_aload_n X eX6_cutSeam_60 rfl ?_
                refine r_iload_n X eX6_cutSeam_61 rfl ?_
                refine r_iload_n X eX6_cutSeam_62 rfl ?_
                refine r_iconst X eX6_cutSeam_63 (nI 1) (by decide) ?_
                refine r_iadd X eX6_cutSeam_64 (nI (p + 1)) (addN (by omega)) ?_
                refine r_iload_n X eX6_cutSeam_65 rfl ?_
                refine cv_X6_106 X eX6_cutSeam_66 (c_X6_move _ G b N w21 hN n wd hg sc d bc bo ag bk st ims kf sg A2 M2 rs se tt tc ⟨n20_w21, m1_w21, m2_w21, m3_w21, m4_w21, m5_w21, m6_w21, m7_w21, m8_w21, m9_w21, m10_w21⟩ y (p + 1) p (by omega) (by omega) (by omega)) (by decide) (by omega) n20_w21 rfl (Nat.le_of_ble_eq_true rfl) (fun w23 hp23 => ?_)
                obtain ⟨⟨y0B, y1B, y2B, y3B, y4B, y5B, y6B, y7B, y8B, y9B, y10B⟩, gB⟩ := hp23
                have m24_w23 : w23 77 = .inr (6, [.ref (b + 78), .ref (b + 79), .ref (b + 80), .ref (b + 81), .int (nI n), .ref (b + 82), .ref (b + 83), .int (nI wd), .int (nI hg), .ref (b + 84), .ref (b + 85), .int sc, .int d, .int bc, .int bo, .int ag, .int bk, .ref (b + 86), .ref (b + 87)]) := y0B
                have m25_w23 : w23 78 = aI G 131 st := y1B
                have m26_w23 : w23 79 = aI G 262 ims := y2B
                have m27_w23 : w23 80 = aZ G 2 kf := y3B
                have m28_w23 : w23 81 = aI G 80 sg := y4B
                have m29_w23 : w23 82 = aI G 64 (upd A2 (ix 0 y p) (A2 (ix 0 y (p + 1)))) := y5B
                have m30_w23 : w23 83 = aI G 64 (upd M2 (ix 0 y p) (M2 (ix 0 y (p + 1)))) := y6B
                have m31_w23 : w23 84 = aI G 64 rs := y7B
                have m32_w23 : w23 85 = aI G 8 se := y8B
                have m33_w23 : w23 86 = aI G 6272 tt := y9B
                have m34_w23 : w23 87 = aI G 49 tc := y10B
                have fr_w23 : ∀ j, (j < 77 ∨ 88 ≤ j) → w23 j = w j := fun j hj => (gB j (by omega)).trans (fr_w21 j hj)
                refine r_iinc X eX6_cutSeam_69 rfl (nI (p + 1)) (inc_nI _) (L2 := [some (.ref (b + 77)), some (.int (nI y)), some (.int (nI (p + 1)))]) rfl ?_
                refine r_goto (tgt := 50) X eX6_cutSeam_72 (by decide) ?_
                exact ih21 (p + 1) d (upd A2 (ix 0 y p) (A2 (ix 0 y (p + 1)))) (upd M2 (ix 0 y p) (M2 (ix 0 y (p + 1)))) w23 (by omega) (by omega) hd (CutI_st (by omega) (by omega) (by omega) (by omega) (by omega) hA2) (CutI_st (by omega) (by omega) (by omega) (by omega) (by omega) hM2) m24_w23 m25_w23 m26_w23 m27_w23 m28_w23 m29_w23 m30_w23 m31_w23 m32_w23 m33_w23 m34_w23 fr_w23 (by omega)
          exact lp21 _ (s y) (c + (nI 1)) A M w20 (by omega) (by omega) (by rw [hc, Int32.add_assoc, sm, if_pos (Int32.toInt_inj.mp c_4)]; rfl) (CutI_in hA) (CutI_in hM) n20_w20 m1_w20 m2_w20 m3_w20 m4_w20 m5_w20 m6_w20 m7_w20 m8_w20 m9_w20 m10_w20 fr_w20 (Nat.lt_succ_self _)
  exact lp1 _ 0 kc gr mk w (by omega) (Int32.add_zero kc).symm CutI_0 CutI_0 m0 m1 m2 m3 m4 m5 m6 m7 m8 m9 m10 fr_w (Nat.lt_succ_self _)
set_option maxHeartbeats 4000000 in
set_option maxRecDepth 100000 in
theorem c_X6_addSeam (l : Launch) (G : Gs) (b N : Nat) (w : Wd) (hN : 88 ≤ N) (n wd hg : Nat) (sc kc bc bo ag bk : Int32) (st ims kf sg gr mk rs se tt tc : Nat → Int32) (hm : mW G b w n wd hg sc kc bc bo ag bk st ims kf sg gr mk rs se tt tc) (h2 : 2 ≤ wd) (h8 : wd < 8) (g2 : 2 ≤ hg) (h9 : hg ≤ 8) (s : Nat → Nat) (hok : okP se s hg wd) : CV l yX6_addSeam cX6_addSeam 4 3 G b N w [.ref (b + 77)] (fun w2 => ∃ gr2 mk2, mW G b w2 n (wd + 1) hg sc kc bc bo ag bk st ims kf sg gr2 mk2 rs se tt tc ∧ (∀ l p, l < hg → p < wd + 1 → mv gr2 l p = adS s (midS s wd (mv gr)) (mv gr) l p ∧ mv mk2 l p = adS s (fun _ => 0) (mv mk) l p) ∧ ∀ j, (j < 77 ∨ 88 ≤ j) → w2 j = w j) := by
  obtain ⟨m0, m1, m2, m3, m4, m5, m6, m7, m8, m9, m10⟩ := hm
  refine CV_of (L0 := [some (.ref (b + 77)), none, none, none]) (by decide) rfl (by simp [Value.category]) rfl (Nat.le_of_ble_eq_true rfl) (fun κ X ret => ?_)
  have fr_w : ∀ j, (j < 77 ∨ 88 ≤ j) → w j = w j := fun _ _ => rfl
  refine r_iconst X eX6_addSeam_0 (nI 0) (by decide) ?_
  refine r_istore_n X eX6_addSeam_1 (Nat.le_of_ble_eq_true rfl) (L2 := [some (.ref (b + 77)), some (.int (nI 0)), none, none]) rfl ?_
  have lp1 : ∀ (fu : Nat) (y : Nat) (A M : Nat → Int32) (w1 : Wd), (y ≤ hg) → (AddI 0 gr s (midS s wd (vg 0 gr)) hg wd y wd A) → (AddI 0 mk s (fun _ => 0) hg wd y wd M) → (w1 77 = .inr (6, [.ref (b + 78), .ref (b + 79), .ref (b + 80), .ref (b + 81), .int (nI n), .ref (b + 82), .ref (b + 83), .int (nI wd), .int (nI hg), .ref (b + 84), .ref (b + 85), .int sc, .int kc, .int bc, .int bo, .int ag, .int bk, .ref (b + 86), .ref (b + 87)])) → (w1 78 = aI G 131 st) → (w1 79 = aI G 262 ims) → (w1 80 = aZ G 2 kf) → (w1 81 = aI G 80 sg) → (w1 82 = aI G 64 A) → (w1 83 = aI G 64 M) → (w1 84 = aI G 64 rs) → (w1 85 = aI G 8 se) → (w1 86 = aI G 6272 tt) → (w1 87 = aI G 49 tc) → (∀ j, (j < 77 ∨ 88 ≤ j) → w1 j = w j) → hg - y < fu → V κ G b (N, 0, 0) w1 2 [some (.ref (b + 77)), some (.int (nI y)), none, none] [] := by
    intro fu
    induction fu with
    | zero => intro y A M w1 hy hA hM m0_w1 m1_w1 m2_w1 m3_w1 m4_w1 m5_w1 m6_w1 m7_w1 m8_w1 m9_w1 m10_w1 fr_w1 hm; exact absurd hm (Nat.not_lt_zero _)
    | succ fu ih1 =>
      intro y A M w1 hy hA hM m0_w1 m1_w1 m2_w1 m3_w1 m4_w1 m5_w1 m6_w1 m7_w1 m8_w1 m9_w1 m10_w1 fr_w1 hm
      refine r_iload_n X eX6_addSeam_2 rfl ?_
      refine r_aload_n X eX6_addSeam_3 rfl ?_
      refine gf_X6_49 X eX6_addSeam_4 (by omega) m0_w1 ?_
      refine r_icmp_ge (tgt := 110) X eX6_addSeam_7 (by decide) (nI_toInt (by omega)) (nI_toInt (by omega)) (fun c_2 => ?_) (fun c_2 => ?_)
      ·
        refine r_aload_n X eX6_addSeam_110 rfl ?_
        refine r_dup X eX6_addSeam_111 rfl ?_
        refine gf_X6_45 X eX6_addSeam_112 (by omega) m0_w1 ?_
        refine r_iconst X eX6_addSeam_115 (nI 1) (by decide) ?_
        refine r_iadd X eX6_addSeam_116 (nI (wd + 1)) (addN (by omega)) ?_
        refine pf_X6_45 X eX6_addSeam_117 (by omega) m0_w1 (fun w3 n3_w3 uu3 => ?_)
        have m1_w3 := (uu3 78 (by omega)).trans m1_w1
        have m2_w3 := (uu3 79 (by omega)).trans m2_w1
        have m3_w3 := (uu3 80 (by omega)).trans m3_w1
        have m4_w3 := (uu3 81 (by omega)).trans m4_w1
        have m5_w3 := (uu3 82 (by omega)).trans m5_w1
        have m6_w3 := (uu3 83 (by omega)).trans m6_w1
        have m7_w3 := (uu3 84 (by omega)).trans m7_w1
        have m8_w3 := (uu3 85 (by omega)).trans m8_w1
        have m9_w3 := (uu3 86 (by omega)).trans m9_w1
        have m10_w3 := (uu3 87 (by omega)).trans m10_w1
        have fr_w3 : ∀ j, (j < 77 ∨ 88 ≤ j) → w3 j = w j := fun j hj => (uu3 j (by omega)).trans (fr_w1 j hj)
        exact ret _ _ _ _ eX6_addSeam_120 (⟨A, M, ⟨n3_w3, m1_w3, m2_w3, m3_w3, m4_w3, m5_w3, m6_w3, m7_w3, m8_w3, m9_w3, m10_w3⟩, fun l p h1 h2 => by rw [mv_eq, mv_eq, mv_eq, mv_eq]; exact ⟨AddI_end (by omega) hA l p h1 h2, AddI_end (by omega) hM l p h1 h2⟩, fr_w3⟩)
      ·
        have hsy := (hok y (by omega)).2
        refine r_aload_n X eX6_addSeam_10 rfl ?_
        refine r_aload_n X eX6_addSeam_11 rfl ?_
        refine gf_X6_32 X eX6_addSeam_12 (by omega) m0_w1 ?_
        refine r_iload_n X eX6_addSeam_15 rfl ?_
        refine r_iald X eX6_addSeam_16 (by omega) m8_w1 (by omega) (by decide) ?_
        refine r_top (y := nI (s y)) (hok y (by omega)).1 ?_
        refine r_iload_n X eX6_addSeam_17 rfl ?_
        refine cp_X6_56 X eX6_addSeam_18 (c_X6_greyAt _ G b N w1 hN n wd hg sc kc bc bo ag bk st ims kf sg A M rs se tt tc ⟨m0_w1, m1_w1, m2_w1, m3_w1, m4_w1, m5_w1, m6_w1, m7_w1, m8_w1, m9_w1, m10_w1⟩ (s y) y (by omega) (by omega)) (by decide) (by omega) m0_w1 rfl (Nat.le_of_ble_eq_true rfl) ?_
        refine r_top (y := vg 0 gr y (s y)) (by rw [mv_eq]; exact AddI_old (by omega) hsy (by omega) hA) ?_
        refine r_aload_n X eX6_addSeam_21 rfl ?_
        refine r_aload_n X eX6_addSeam_22 rfl ?_
        refine gf_X6_32 X eX6_addSeam_23 (by omega) m0_w1 ?_
        refine r_iload_n X eX6_addSeam_26 rfl ?_
        refine r_iald X eX6_addSeam_27 (by omega) m8_w1 (by omega) (by decide) ?_
        refine r_top (y := nI (s y)) (hok y (by omega)).1 ?_
        refine r_iload_n X eX6_addSeam_28 rfl ?_
        refine cp_X6_62 X eX6_addSeam_29 (c_X6_right _ G b N w1 hN n wd hg sc kc bc bo ag bk st ims kf sg A M rs se tt tc ⟨m0_w1, m1_w1, m2_w1, m3_w1, m4_w1, m5_w1, m6_w1, m7_w1, m8_w1, m9_w1, m10_w1⟩ (s y) y (by omega) (by omega) (by omega) h9) (by decide) (by omega) m0_w1 rfl (Nat.le_of_ble_eq_true rfl) ?_
        refine r_top (y := vg 0 gr y (min (s y + 1) (wd - 1))) (by rw [mv_eq]; exact AddI_old (by omega) (by omega) (by omega) hA) ?_
        refine r_iadd X eX6_addSeam_32 ((vg 0 gr y (s y)) + (vg 0 gr y (min (s y + 1) (wd - 1)))) rfl ?_
        refine r_iconst X eX6_addSeam_33 ((2 : Int32)) (by decide) ?_
        refine r_idiv X eX6_addSeam_34 (by decide) (midS s wd (vg 0 gr) y) rfl ?_
        refine r_istore_n X eX6_addSeam_35 (Nat.le_of_ble_eq_true rfl) (L2 := [some (.ref (b + 77)), some (.int (nI y)), some (.int (midS s wd (vg 0 gr) y)), none]) rfl ?_
        refine r_aload_n X eX6_addSeam_36 rfl ?_
        refine gf_X6_45 X eX6_addSeam_37 (by omega) m0_w1 ?_
        refine r_istore_n X eX6_addSeam_40 (Nat.le_of_ble_eq_true rfl) (L2 := [some (.ref (b + 77)), some (.int (nI y)), some (.int (midS s wd (vg 0 gr) y)), some (.int (nI wd))]) rfl ?_
        have lp4 : ∀ (fu : Nat) (p : Nat) (A2 M2 : Nat → Int32) (w4 : Wd), (s y + 1 ≤ p) → (p ≤ wd) → (AddI 0 gr s (midS s wd (vg 0 gr)) hg wd y p A2) → (AddI 0 mk s (fun _ => 0) hg wd y p M2) → (w4 77 = .inr (6, [.ref (b + 78), .ref (b + 79), .ref (b + 80), .ref (b + 81), .int (nI n), .ref (b + 82), .ref (b + 83), .int (nI wd), .int (nI hg), .ref (b + 84), .ref (b + 85), .int sc, .int kc, .int bc, .int bo, .int ag, .int bk, .ref (b + 86), .ref (b + 87)])) → (w4 78 = aI G 131 st) → (w4 79 = aI G 262 ims) → (w4 80 = aZ G 2 kf) → (w4 81 = aI G 80 sg) → (w4 82 = aI G 64 A2) → (w4 83 = aI G 64 M2) → (w4 84 = aI G 64 rs) → (w4 85 = aI G 8 se) → (w4 86 = aI G 6272 tt) → (w4 87 = aI G 49 tc) → (∀ j, (j < 77 ∨ 88 ≤ j) → w4 j = w j) → p < fu → V κ G b (N, 0, 0) w4 41 [some (.ref (b + 77)), some (.int (nI y)), some (.int (midS s wd (vg 0 gr) y)), some (.int (nI p))] [] := by
          intro fu
          induction fu with
          | zero => intro p A2 M2 w4 hp1 hp2 hA2 hM2 m0_w4 m1_w4 m2_w4 m3_w4 m4_w4 m5_w4 m6_w4 m7_w4 m8_w4 m9_w4 m10_w4 fr_w4 hm; exact absurd hm (Nat.not_lt_zero _)
          | succ fu ih4 =>
            intro p A2 M2 w4 hp1 hp2 hA2 hM2 m0_w4 m1_w4 m2_w4 m3_w4 m4_w4 m5_w4 m6_w4 m7_w4 m8_w4 m9_w4 m10_w4 fr_w4 hm
            refine r_iload_n X eX6_addSeam_41 rfl ?_
            refine r_aload_n X eX6_addSeam_42 rfl ?_
            refine gf_X6_32 X eX6_addSeam_43 (by omega) m0_w4 ?_
            refine r_iload_n X eX6_addSeam_46 rfl ?_
            refine r_iald X eX6_addSeam_47 (by omega) m8_w4 (by omega) (by decide) ?_
            refine r_top (y := nI (s y)) (hok y (by omega)).1 ?_
            refine r_iconst X eX6_addSeam_48 (nI 1) (by decide) ?_
            refine r_iadd X eX6_addSeam_49 (nI (s y + 1)) (addN (by omega)) ?_
            refine r_icmp_le (tgt := 68) X eX6_addSeam_50 (by decide) (nI_toInt (by omega)) (nI_toInt (by omega)) (fun c_5 => ?_) (fun c_5 => ?_)
            ·
              refine r_aload_n X eX6_addSeam_68 rfl ?_
              refine gf_X6_23 X eX6_addSeam_69 (by omega) m0_w4 ?_
              refine r_aload_n X eX6_addSeam_72 rfl ?_
              refine gf_X6_32 X eX6_addSeam_73 (by omega) m0_w4 ?_
              refine r_iload_n X eX6_addSeam_76 rfl ?_
              refine r_iald X eX6_addSeam_77 (by omega) m8_w4 (by omega) (by decide) ?_
              refine r_top (y := nI (s y)) (hok y (by omega)).1 ?_
              refine r_iconst X eX6_addSeam_78 (nI 1) (by decide) ?_
              refine r_iadd X eX6_addSeam_79 (nI (s y + 1)) (addN (by omega)) ?_
              refine r_iload_n X eX6_addSeam_80 rfl ?_
              refine cp_X6_52 X eX6_addSeam_81 (c_X6_at _ G b N w4 (s y + 1) y) (by decide) rfl (Nat.le_of_ble_eq_true rfl) ?_
              refine r_top (y := nI (ix 0 y (s y + 1))) (congrArg nI (at_ix _ _)) ?_
              refine r_iload_n X eX6_addSeam_84 rfl ?_
              refine r_iast X eX6_addSeam_85 (by omega) m5_w4 (ix_lt (by omega) (by omega)) (by decide) (fun w6 n6_w6 uu6 => ?_)
              have m0_w6 := (uu6 77 (by omega)).trans m0_w4
              have m1_w6 := (uu6 78 (by omega)).trans m1_w4
              have m2_w6 := (uu6 79 (by omega)).trans m2_w4
              have m3_w6 := (uu6 80 (by omega)).trans m3_w4
              have m4_w6 := (uu6 81 (by omega)).trans m4_w4
              have m6_w6 := (uu6 83 (by omega)).trans m6_w4
              have m7_w6 := (uu6 84 (by omega)).trans m7_w4
              have m8_w6 := (uu6 85 (by omega)).trans m8_w4
              have m9_w6 := (uu6 86 (by omega)).trans m9_w4
              have m10_w6 := (uu6 87 (by omega)).trans m10_w4
              have fr_w6 : ∀ j, (j < 77 ∨ 88 ≤ j) → w6 j = w j := fun j hj => (uu6 j (by omega)).trans (fr_w4 j hj)
              refine r_aload_n X eX6_addSeam_86 rfl ?_
              refine gf_X6_26 X eX6_addSeam_87 (by omega) m0_w6 ?_
              refine r_aload_n X eX6_addSeam_90 rfl ?_
              refine gf_X6_32 X eX6_addSeam_91 (by omega) m0_w6 ?_
              refine r_iload_n X eX6_addSeam_94 rfl ?_
              refine r_iald X eX6_addSeam_95 (by omega) m8_w6 (by omega) (by decide) ?_
              refine r_top (y := nI (s y)) (hok y (by omega)).1 ?_
              refine r_iconst X eX6_addSeam_96 (nI 1) (by decide) ?_
              refine r_iadd X eX6_addSeam_97 (nI (s y + 1)) (addN (by omega)) ?_
              refine r_iload_n X eX6_addSeam_98 rfl ?_
              refine cp_X6_52 X eX6_addSeam_99 (c_X6_at _ G b N w6 (s y + 1) y) (by decide) rfl (Nat.le_of_ble_eq_true rfl) ?_
              refine r_top (y := nI (ix 0 y (s y + 1))) (congrArg nI (at_ix _ _)) ?_
              refine r_iconst X eX6_addSeam_102 ((0 : Int32)) (by decide) ?_
              refine r_iast X eX6_addSeam_103 (by omega) m6_w6 (ix_lt (by omega) (by omega)) (by decide) (fun w7 n7_w7 uu7 => ?_)
              have m0_w7 := (uu7 77 (by omega)).trans m0_w6
              have m1_w7 := (uu7 78 (by omega)).trans m1_w6
              have m2_w7 := (uu7 79 (by omega)).trans m2_w6
              have m3_w7 := (uu7 80 (by omega)).trans m3_w6
              have m4_w7 := (uu7 81 (by omega)).trans m4_w6
              have n6_w7 := (uu7 82 (by omega)).trans n6_w6
              have m7_w7 := (uu7 84 (by omega)).trans m7_w6
              have m8_w7 := (uu7 85 (by omega)).trans m8_w6
              have m9_w7 := (uu7 86 (by omega)).trans m9_w6
              have m10_w7 := (uu7 87 (by omega)).trans m10_w6
              have fr_w7 : ∀ j, (j < 77 ∨ 88 ≤ j) → w7 j = w j := fun j hj => (uu7 j (by omega)).trans (fr_w6 j hj)
              refine r_iinc X eX6_addSeam_104 rfl (nI (y + 1)) (inc_nI _) (L2 := [some (.ref (b + 77)), some (.int (nI (y + 1))), some (.int (midS s wd (vg 0 gr) y)), some (.int (nI p))]) rfl ?_
              refine r_goto (tgt := 2) X eX6_addSeam_107 (by decide) ?_
              refine r_fg 2 (L2 := [some (.ref (b + 77)), some (.int (nI (y + 1))), none, some (.int (nI p))]) rfl ?_
              refine r_fg 3 (L2 := [some (.ref (b + 77)), some (.int (nI (y + 1))), none, none]) rfl ?_
              exact ih1 (y + 1) (upd A2 (ix 0 y (s y + 1)) (midS s wd (vg 0 gr) y)) (upd M2 (ix 0 y (s y + 1)) ((0 : Int32))) w7 (by omega) (AddI_out (by omega) (by omega) (by omega) hsy (by omega) rfl hA2) (AddI_out (by omega) (by omega) (by omega) hsy (by omega) rfl hM2) m0_w7 m1_w7 m2_w7 m3_w7 m4_w7 n6_w7 n7_w7 m7_w7 m8_w7 m9_w7 m10_w7 fr_w7 (by omega)
            ·
              refine r_aload_n X eX6_addSeam_53 rfl ?_
              refine r_iload_n X eX6_addSeam_54 rfl ?_
              refine r_iload_n X eX6_addSeam_55 rfl ?_
              refine r_iconst X eX6_addSeam_56 (nI 1) (by decide) ?_
              refine r_isub X eX6_addSeam_57 (nI (p - 1)) (pk_sub (by omega)) ?_
              refine r_iload_n X eX6_addSeam_58 rfl ?_
              refine cv_X6_106 X eX6_addSeam_59 (c_X6_move _ G b N w4 hN n wd hg sc kc bc bo ag bk st ims kf sg A2 M2 rs se tt tc ⟨m0_w4, m1_w4, m2_w4, m3_w4, m4_w4, m5_w4, m6_w4, m7_w4, m8_w4, m9_w4, m10_w4⟩ y (p - 1) p (by omega) (by omega) (by omega)) (by decide) (by omega) m0_w4 rfl (Nat.le_of_ble_eq_true rfl) (fun w8 hp8 => ?_)
              obtain ⟨⟨y0B, y1B, y2B, y3B, y4B, y5B, y6B, y7B, y8B, y9B, y10B⟩, gB⟩ := hp8
              have m9_w8 : w8 77 = .inr (6, [.ref (b + 78), .ref (b + 79), .ref (b + 80), .ref (b + 81), .int (nI n), .ref (b + 82), .ref (b + 83), .int (nI wd), .int (nI hg), .ref (b + 84), .ref (b + 85), .int sc, .int kc, .int bc, .int bo, .int ag, .int bk, .ref (b + 86), .ref (b + 87)]) := y0B
              have m10_w8 : w8 78 = aI G 131 st := y1B
              have m11_w8 : w8 79 = aI G 262 ims := y2B
              have m12_w8 : w8 80 = aZ G 2 kf := y3B
              have m13_w8 : w8 81 = aI G 80 sg := y4B
              have m14_w8 : w8 82 = aI G 64 (upd A2 (ix 0 y p) (A2 (ix 0 y (p - 1)))) := y5B
              have m15_w8 : w8 83 = aI G 64 (upd M2 (ix 0 y p) (M2 (ix 0 y (p - 1)))) := y6B
              have m16_w8 : w8 84 = aI G 64 rs := y7B
              have m17_w8 : w8 85 = aI G 8 se := y8B
              have m18_w8 : w8 86 = aI G 6272 tt := y9B
              have m19_w8 : w8 87 = aI G 49 tc := y10B
              have fr_w8 : ∀ j, (j < 77 ∨ 88 ≤ j) → w8 j = w j := fun j hj => (gB j (by omega)).trans (fr_w4 j hj)
              refine r_iinc X eX6_addSeam_62 rfl (nI (p - 1)) ((dec_nI _).trans (nP_pos (by omega))) (L2 := [some (.ref (b + 77)), some (.int (nI y)), some (.int (midS s wd (vg 0 gr) y)), some (.int (nI (p - 1)))]) rfl ?_
              refine r_goto (tgt := 41) X eX6_addSeam_65 (by decide) ?_
              exact ih4 (p - 1) (upd A2 (ix 0 y p) (A2 (ix 0 y (p - 1)))) (upd M2 (ix 0 y p) (M2 (ix 0 y (p - 1)))) w8 (by omega) (by omega) (AddI_st (by omega) (by omega) (by omega) (by omega) (by omega) hA2) (AddI_st (by omega) (by omega) (by omega) (by omega) (by omega) hM2) m9_w8 m10_w8 m11_w8 m12_w8 m13_w8 m14_w8 m15_w8 m16_w8 m17_w8 m18_w8 m19_w8 fr_w8 (by omega)
        exact lp4 _ wd A M w1 (by omega) (by omega) hA hM m0_w1 m1_w1 m2_w1 m3_w1 m4_w1 m5_w1 m6_w1 m7_w1 m8_w1 m9_w1 m10_w1 fr_w1 (Nat.lt_succ_self _)
  exact lp1 _ 0 gr mk w (by omega) AddI_0 AddI_0 m0 m1 m2 m3 m4 m5 m6 m7 m8 m9 m10 fr_w (Nat.lt_succ_self _)
set_option maxHeartbeats 4000000 in
set_option maxRecDepth 100000 in
theorem c_X6_turn (l : Launch) (G : Gs) (b N : Nat) (w : Wd) (hN : 88 ≤ N) (n wd hg : Nat) (sc kc bc bo ag bk : Int32) (st ims kf sg gr mk rs se tt tc : Nat → Int32) (hm : mW G b w n wd hg sc kc bc bo ag bk st ims kf sg gr mk rs se tt tc) : CV l yX6_turn cX6_turn 5 1 G b N w [.ref (b + 77)] (fun w2 => ∃ gr2 mk2, mW G b w2 n hg wd sc kc bc bo ag bk st ims kf sg gr2 mk2 rs se tt tc ∧ (∀ r c, r < 8 → c < 8 → gr2 (8 * r + c) = gr (8 * c + r) ∧ mk2 (8 * r + c) = mk (8 * c + r)) ∧ ∀ j, (j < 77 ∨ 88 ≤ j) → w2 j = w j) := by
  obtain ⟨m0, m1, m2, m3, m4, m5, m6, m7, m8, m9, m10⟩ := hm
  refine CV_of (L0 := [some (.ref (b + 77)), none, none, none, none]) (by decide) rfl (by simp [Value.category]) rfl (Nat.le_of_ble_eq_true rfl) (fun κ X ret => ?_)
  have fr_w : ∀ j, (j < 77 ∨ 88 ≤ j) → w j = w j := fun _ _ => rfl
  refine r_iconst X eX6_turn_0 (nI 0) (by decide) ?_
  refine r_istore_n X eX6_turn_1 (Nat.le_of_ble_eq_true rfl) (L2 := [some (.ref (b + 77)), some (.int (nI 0)), none, none, none]) rfl ?_
  have lp1 : ∀ (fu : Nat) (y : Nat) (A M : Nat → Int32) (w1 : Wd), (y ≤ 8) → (TI gr y 0 A) → (TI mk y 0 M) → (w1 77 = .inr (6, [.ref (b + 78), .ref (b + 79), .ref (b + 80), .ref (b + 81), .int (nI n), .ref (b + 82), .ref (b + 83), .int (nI wd), .int (nI hg), .ref (b + 84), .ref (b + 85), .int sc, .int kc, .int bc, .int bo, .int ag, .int bk, .ref (b + 86), .ref (b + 87)])) → (w1 78 = aI G 131 st) → (w1 79 = aI G 262 ims) → (w1 80 = aZ G 2 kf) → (w1 81 = aI G 80 sg) → (w1 82 = aI G 64 A) → (w1 83 = aI G 64 M) → (w1 84 = aI G 64 rs) → (w1 85 = aI G 8 se) → (w1 86 = aI G 6272 tt) → (w1 87 = aI G 49 tc) → (∀ j, (j < 77 ∨ 88 ≤ j) → w1 j = w j) → 8 - y < fu → V κ G b (N, 0, 0) w1 2 [some (.ref (b + 77)), some (.int (nI y)), none, none, none] [] := by
    intro fu
    induction fu with
    | zero => intro y A M w1 hy hA hM m0_w1 m1_w1 m2_w1 m3_w1 m4_w1 m5_w1 m6_w1 m7_w1 m8_w1 m9_w1 m10_w1 fr_w1 hm; exact absurd hm (Nat.not_lt_zero _)
    | succ fu ih1 =>
      intro y A M w1 hy hA hM m0_w1 m1_w1 m2_w1 m3_w1 m4_w1 m5_w1 m6_w1 m7_w1 m8_w1 m9_w1 m10_w1 fr_w1 hm
      refine r_iload_n X eX6_turn_2 rfl ?_
      refine r_bipush X eX6_turn_3 (nI 8) (by decide) ?_
      refine r_icmp_ge (tgt := 113) X eX6_turn_5 (by decide) (nI_toInt (by omega)) (nI_toInt (by omega)) (fun c_2 => ?_) (fun c_2 => ?_)
      ·
        refine r_aload_n X eX6_turn_113 rfl ?_
        refine gf_X6_45 X eX6_turn_114 (by omega) m0_w1 ?_
        refine r_istore_n X eX6_turn_117 (Nat.le_of_ble_eq_true rfl) (L2 := [some (.ref (b + 77)), some (.int (nI wd)), none, none, none]) rfl ?_
        refine r_aload_n X eX6_turn_118 rfl ?_
        refine r_aload_n X eX6_turn_119 rfl ?_
        refine gf_X6_49 X eX6_turn_120 (by omega) m0_w1 ?_
        refine pf_X6_45 X eX6_turn_123 (by omega) m0_w1 (fun w3 n3_w3 uu3 => ?_)
        have m1_w3 := (uu3 78 (by omega)).trans m1_w1
        have m2_w3 := (uu3 79 (by omega)).trans m2_w1
        have m3_w3 := (uu3 80 (by omega)).trans m3_w1
        have m4_w3 := (uu3 81 (by omega)).trans m4_w1
        have m5_w3 := (uu3 82 (by omega)).trans m5_w1
        have m6_w3 := (uu3 83 (by omega)).trans m6_w1
        have m7_w3 := (uu3 84 (by omega)).trans m7_w1
        have m8_w3 := (uu3 85 (by omega)).trans m8_w1
        have m9_w3 := (uu3 86 (by omega)).trans m9_w1
        have m10_w3 := (uu3 87 (by omega)).trans m10_w1
        have fr_w3 : ∀ j, (j < 77 ∨ 88 ≤ j) → w3 j = w j := fun j hj => (uu3 j (by omega)).trans (fr_w1 j hj)
        refine r_aload_n X eX6_turn_126 rfl ?_
        refine r_iload_n X eX6_turn_127 rfl ?_
        refine pf_X6_49 X eX6_turn_128 (by omega) n3_w3 (fun w4 n4_w4 uu4 => ?_)
        have m1_w4 := (uu4 78 (by omega)).trans m1_w3
        have m2_w4 := (uu4 79 (by omega)).trans m2_w3
        have m3_w4 := (uu4 80 (by omega)).trans m3_w3
        have m4_w4 := (uu4 81 (by omega)).trans m4_w3
        have m5_w4 := (uu4 82 (by omega)).trans m5_w3
        have m6_w4 := (uu4 83 (by omega)).trans m6_w3
        have m7_w4 := (uu4 84 (by omega)).trans m7_w3
        have m8_w4 := (uu4 85 (by omega)).trans m8_w3
        have m9_w4 := (uu4 86 (by omega)).trans m9_w3
        have m10_w4 := (uu4 87 (by omega)).trans m10_w3
        have fr_w4 : ∀ j, (j < 77 ∨ 88 ≤ j) → w4 j = w j := fun j hj => (uu4 j (by omega)).trans (fr_w3 j hj)
        exact ret _ _ _ _ eX6_turn_131 (⟨A, M, ⟨n4_w4, m1_w4, m2_w4, m3_w4, m4_w4, m5_w4, m6_w4, m7_w4, m8_w4, m9_w4, m10_w4⟩, fun r c h1 h2 => ⟨TI_end (by omega) hA r c h1 h2, TI_end (by omega) hM r c h1 h2⟩, fr_w4⟩)
      ·
        refine r_iconst X eX6_turn_8 (nI 0) (by decide) ?_
        refine r_istore_n X eX6_turn_9 (Nat.le_of_ble_eq_true rfl) (L2 := [some (.ref (b + 77)), some (.int (nI y)), some (.int (nI 0)), none, none]) rfl ?_
        have lp5 : ∀ (fu : Nat) (x : Nat) (A2 M2 : Nat → Int32) (w5 : Wd), (x ≤ y) → (TI gr y x A2) → (TI mk y x M2) → (w5 77 = .inr (6, [.ref (b + 78), .ref (b + 79), .ref (b + 80), .ref (b + 81), .int (nI n), .ref (b + 82), .ref (b + 83), .int (nI wd), .int (nI hg), .ref (b + 84), .ref (b + 85), .int sc, .int kc, .int bc, .int bo, .int ag, .int bk, .ref (b + 86), .ref (b + 87)])) → (w5 78 = aI G 131 st) → (w5 79 = aI G 262 ims) → (w5 80 = aZ G 2 kf) → (w5 81 = aI G 80 sg) → (w5 82 = aI G 64 A2) → (w5 83 = aI G 64 M2) → (w5 84 = aI G 64 rs) → (w5 85 = aI G 8 se) → (w5 86 = aI G 6272 tt) → (w5 87 = aI G 49 tc) → (∀ j, (j < 77 ∨ 88 ≤ j) → w5 j = w j) → y - x < fu → V κ G b (N, 0, 0) w5 10 [some (.ref (b + 77)), some (.int (nI y)), some (.int (nI x)), none, none] [] := by
          intro fu
          induction fu with
          | zero => intro x A2 M2 w5 hx hA2 hM2 m0_w5 m1_w5 m2_w5 m3_w5 m4_w5 m5_w5 m6_w5 m7_w5 m8_w5 m9_w5 m10_w5 fr_w5 hm; exact absurd hm (Nat.not_lt_zero _)
          | succ fu ih5 =>
            intro x A2 M2 w5 hx hA2 hM2 m0_w5 m1_w5 m2_w5 m3_w5 m4_w5 m5_w5 m6_w5 m7_w5 m8_w5 m9_w5 m10_w5 fr_w5 hm
            refine r_iload_n X eX6_turn_10 rfl ?_
            refine r_iload_n X eX6_turn_11 rfl ?_
            refine r_icmp_ge (tgt := 107) X eX6_turn_12 (by decide) (nI_toInt (by omega)) (nI_toInt (by omega)) (fun c_6 => ?_) (fun c_6 => ?_)
            ·
              refine r_iinc X eX6_turn_107 rfl (nI (y + 1)) (inc_nI _) (L2 := [some (.ref (b + 77)), some (.int (nI (y + 1))), some (.int (nI x)), none, none]) rfl ?_
              refine r_goto (tgt := 2) X eX6_turn_110 (by decide) ?_
              refine r_fg 2 (L2 := [some (.ref (b + 77)), some (.int (nI (y + 1))), none, none, none]) rfl ?_
              exact ih1 (y + 1) A2 M2 w5 (by omega) (TI_out (by omega) hA2) (TI_out (by omega) hM2) m0_w5 m1_w5 m2_w5 m3_w5 m4_w5 m5_w5 m6_w5 m7_w5 m8_w5 m9_w5 m10_w5 fr_w5 (by omega)
            ·
              refine r_aload_n X eX6_turn_15 rfl ?_
              refine gf_X6_23 X eX6_turn_16 (by omega) m0_w5 ?_
              refine r_iload_n X eX6_turn_19 rfl ?_
              refine r_iload_n X eX6_turn_20 rfl ?_
              refine cp_X6_52 X eX6_turn_21 (c_X6_at _ G b N w5 x y) (by decide) rfl (Nat.le_of_ble_eq_true rfl) ?_
              refine r_iald X eX6_turn_24 (by omega) m5_w5 (by omega) (by decide) ?_
              refine r_istore_n X eX6_turn_25 (Nat.le_of_ble_eq_true rfl) (L2 := [some (.ref (b + 77)), some (.int (nI y)), some (.int (nI x)), some (.int (A2 (8 * y + x))), none]) rfl ?_
              refine r_aload_n X eX6_turn_26 rfl ?_
              refine gf_X6_23 X eX6_turn_27 (by omega) m0_w5 ?_
              refine r_iload_n X eX6_turn_30 rfl ?_
              refine r_iload_n X eX6_turn_31 rfl ?_
              refine cp_X6_52 X eX6_turn_32 (c_X6_at _ G b N w5 x y) (by decide) rfl (Nat.le_of_ble_eq_true rfl) ?_
              refine r_aload_n X eX6_turn_35 rfl ?_
              refine gf_X6_23 X eX6_turn_36 (by omega) m0_w5 ?_
              refine r_iload_n X eX6_turn_39 rfl ?_
              refine r_iload_n X eX6_turn_40 rfl ?_
              refine cp_X6_52 X eX6_turn_41 (c_X6_at _ G b N w5 y x) (by decide) rfl (Nat.le_of_ble_eq_true rfl) ?_
              refine r_iald X eX6_turn_44 (by omega) m5_w5 (by omega) (by decide) ?_
              refine r_iast X eX6_turn_45 (by omega) m5_w5 (by omega) (by decide) (fun w7 n7_w7 uu7 => ?_)
              have m0_w7 := (uu7 77 (by omega)).trans m0_w5
              have m1_w7 := (uu7 78 (by omega)).trans m1_w5
              have m2_w7 := (uu7 79 (by omega)).trans m2_w5
              have m3_w7 := (uu7 80 (by omega)).trans m3_w5
              have m4_w7 := (uu7 81 (by omega)).trans m4_w5
              have m6_w7 := (uu7 83 (by omega)).trans m6_w5
              have m7_w7 := (uu7 84 (by omega)).trans m7_w5
              have m8_w7 := (uu7 85 (by omega)).trans m8_w5
              have m9_w7 := (uu7 86 (by omega)).trans m9_w5
              have m10_w7 := (uu7 87 (by omega)).trans m10_w5
              have fr_w7 : ∀ j, (j < 77 ∨ 88 ≤ j) → w7 j = w j := fun j hj => (uu7 j (by omega)).trans (fr_w5 j hj)
              refine r_aload_n X eX6_turn_46 rfl ?_
              refine gf_X6_23 X eX6_turn_47 (by omega) m0_w7 ?_
              refine r_iload_n X eX6_turn_50 rfl ?_
              refine r_iload_n X eX6_turn_51 rfl ?_
              refine cp_X6_52 X eX6_turn_52 (c_X6_at _ G b N w7 y x) (by decide) rfl (Nat.le_of_ble_eq_true rfl) ?_
              refine r_iload_n X eX6_turn_55 rfl ?_
              refine r_iast X eX6_turn_56 (by omega) n7_w7 (by omega) (by decide) (fun w8 n8_w8 uu8 => ?_)
              have m0_w8 := (uu8 77 (by omega)).trans m0_w7
              have m1_w8 := (uu8 78 (by omega)).trans m1_w7
              have m2_w8 := (uu8 79 (by omega)).trans m2_w7
              have m3_w8 := (uu8 80 (by omega)).trans m3_w7
              have m4_w8 := (uu8 81 (by omega)).trans m4_w7
              have m6_w8 := (uu8 83 (by omega)).trans m6_w7
              have m7_w8 := (uu8 84 (by omega)).trans m7_w7
              have m8_w8 := (uu8 85 (by omega)).trans m8_w7
              have m9_w8 := (uu8 86 (by omega)).trans m9_w7
              have m10_w8 := (uu8 87 (by omega)).trans m10_w7
              have fr_w8 : ∀ j, (j < 77 ∨ 88 ≤ j) → w8 j = w j := fun j hj => (uu8 j (by omega)).trans (fr_w7 j hj)
              refine r_aload_n X eX6_turn_57 rfl ?_
              refine gf_X6_26 X eX6_turn_58 (by omega) m0_w8 ?_
              refine r_iload_n X eX6_turn_61 rfl ?_
              refine r_iload_n X eX6_turn_62 rfl ?_
              refine cp_X6_52 X eX6_turn_63 (c_X6_at _ G b N w8 x y) (by decide) rfl (Nat.le_of_ble_eq_true rfl) ?_
              refine r_iald X eX6_turn_66 (by omega) m6_w8 (by omega) (by decide) ?_
              refine r_istore X eX6_turn_67 (Nat.le_of_ble_eq_true rfl) (L2 := [some (.ref (b + 77)), some (.int (nI y)), some (.int (nI x)), some (.int (A2 (8 * y + x))), some (.int (M2 (8 * y + x)))]) rfl ?_
              refine r_aload_n X eX6_turn_69 rfl ?_
              refine gf_X6_26 X eX6_turn_70 (by omega) m0_w8 ?_
              refine r_iload_n X eX6_turn_73 rfl ?_
              refine r_iload_n X eX6_turn_74 rfl ?_
              refine cp_X6_52 X eX6_turn_75 (c_X6_at _ G b N w8 x y) (by decide) rfl (Nat.le_of_ble_eq_true rfl) ?_
              refine r_aload_n X eX6_turn_78 rfl ?_
              refine gf_X6_26 X eX6_turn_79 (by omega) m0_w8 ?_
              refine r_iload_n X eX6_turn_82 rfl ?_
              refine r_iload_n X eX6_turn_83 rfl ?_
              refine cp_X6_52 X eX6_turn_84 (c_X6_at _ G b N w8 y x) (by decide) rfl (Nat.le_of_ble_eq_true rfl) ?_
              refine r_iald X eX6_turn_87 (by omega) m6_w8 (by omega) (by decide) ?_
              refine r_iast X eX6_turn_88 (by omega) m6_w8 (by omega) (by decide) (fun w9 n9_w9 uu9 => ?_)
              have m0_w9 := (uu9 77 (by omega)).trans m0_w8
              have m1_w9 := (uu9 78 (by omega)).trans m1_w8
              have m2_w9 := (uu9 79 (by omega)).trans m2_w8
              have m3_w9 := (uu9 80 (by omega)).trans m3_w8
              have m4_w9 := (uu9 81 (by omega)).trans m4_w8
              have n8_w9 := (uu9 82 (by omega)).trans n8_w8
              have m7_w9 := (uu9 84 (by omega)).trans m7_w8
              have m8_w9 := (uu9 85 (by omega)).trans m8_w8
              have m9_w9 := (uu9 86 (by omega)).trans m9_w8
              have m10_w9 := (uu9 87 (by omega)).trans m10_w8
              have fr_w9 : ∀ j, (j < 77 ∨ 88 ≤ j) → w9 j = w j := fun j hj => (uu9 j (by omega)).trans (fr_w8 j hj)
              refine r_aload_n X eX6_turn_89 rfl ?_
              refine gf_X6_26 X eX6_turn_90 (by omega) m0_w9 ?_
              refine r_iload_n X eX6_turn_93 rfl ?_
              refine r_iload_n X eX6_turn_94 rfl ?_
              refine cp_X6_52 X eX6_turn_95 (c_X6_at _ G b N w9 y x) (by decide) rfl (Nat.le_of_ble_eq_true rfl) ?_
              refine r_iload X eX6_turn_98 rfl ?_
              refine r_iast X eX6_turn_100 (by omega) n9_w9 (by omega) (by decide) (fun w10 n10_w10 uu10 => ?_)
              have m0_w10 := (uu10 77 (by omega)).trans m0_w9
              have m1_w10 := (uu10 78 (by omega)).trans m1_w9
              have m2_w10 := (uu10 79 (by omega)).trans m2_w9
              have m3_w10 := (uu10 80 (by omega)).trans m3_w9
              have m4_w10 := (uu10 81 (by omega)).trans m4_w9
              have n8_w10 := (uu10 82 (by omega)).trans n8_w9
              have m7_w10 := (uu10 84 (by omega)).trans m7_w9
              have m8_w10 := (uu10 85 (by omega)).trans m8_w9
              have m9_w10 := (uu10 86 (by omega)).trans m9_w9
              have m10_w10 := (uu10 87 (by omega)).trans m10_w9
              have fr_w10 : ∀ j, (j < 77 ∨ 88 ≤ j) → w10 j = w j := fun j hj => (uu10 j (by omega)).trans (fr_w9 j hj)
              refine r_iinc X eX6_turn_101 rfl (nI (x + 1)) (inc_nI _) (L2 := [some (.ref (b + 77)), some (.int (nI y)), some (.int (nI (x + 1))), some (.int (A2 (8 * y + x))), some (.int (M2 (8 * y + x)))]) rfl ?_
              refine r_goto (tgt := 10) X eX6_turn_104 (by decide) ?_
              refine r_fg 3 (L2 := [some (.ref (b + 77)), some (.int (nI y)), some (.int (nI (x + 1))), none, some (.int (M2 (8 * y + x)))]) rfl ?_
              refine r_fg 4 (L2 := [some (.ref (b + 77)), some (.int (nI y)), some (.int (nI (x + 1))), none, none]) rfl ?_
              exact ih5 (x + 1) (upd (upd A2 (8 * y + x) (A2 (8 * x + y))) (8 * x + y) (A2 (8 * y + x))) (upd (upd M2 (8 * y + x) (M2 (8 * x + y))) (8 * x + y) (M2 (8 * y + x))) w10 (by omega) (TI_st (by omega) (by omega) hA2) (TI_st (by omega) (by omega) hM2) m0_w10 m1_w10 m2_w10 m3_w10 m4_w10 n8_w10 n10_w10 m7_w10 m8_w10 m9_w10 m10_w10 fr_w10 (by omega)
        exact lp5 _ 0 A M w1 (by omega) hA hM m0_w1 m1_w1 m2_w1 m3_w1 m4_w1 m5_w1 m6_w1 m7_w1 m8_w1 m9_w1 m10_w1 fr_w1 (Nat.lt_succ_self _)
  exact lp1 _ 0 gr mk w (by omega) TI_0 TI_0 m0 m1 m2 m3 m4 m5 m6 m7 m8 m9 m10 fr_w (Nat.lt_succ_self _)
set_option maxHeartbeats 4000000 in
set_option maxRecDepth 100000 in
theorem c_X6_take (l : Launch) (G : Gs) (b N : Nat) (w : Wd) (hN : 88 ≤ N) (n wd hg : Nat) (sc kc bc bo ag bk : Int32) (st ims kf sg gr mk rs se tt tc : Nat → Int32) (hm : mW G b w n wd hg sc kc bc bo ag bk st ims kf sg gr mk rs se tt tc) (P1 P2 : Nat) (e1 : st 128 = nI P1) (e2 : st 129 = nI P2) : CV l yX6_take cX6_take 2 0 G b N w [.ref (b + 77)] (fun w2 => ∃ gr2 mk2, mW G b w2 n P1 P2 sc kc bc bo ag bk st ims kf sg gr2 mk2 rs se tt tc ∧ (∀ i, i < 64 → gr2 i = st i ∧ mk2 i = st (64 + i)) ∧ ∀ j, (j < 77 ∨ 88 ≤ j) → w2 j = w j) := by
  obtain ⟨m0, m1, m2, m3, m4, m5, m6, m7, m8, m9, m10⟩ := hm
  refine CV_of (L0 := [some (.ref (b + 77)), none]) (by decide) rfl (by simp [Value.category]) rfl (Nat.le_of_ble_eq_true rfl) (fun κ X ret => ?_)
  have fr_w : ∀ j, (j < 77 ∨ 88 ≤ j) → w j = w j := fun _ _ => rfl
  refine r_aload_n X eX6_take_0 rfl ?_
  refine r_aload_n X eX6_take_1 rfl ?_
  refine gf_X6_7 X eX6_take_2 (by omega) m0 ?_
  refine r_sipush X eX6_take_5 (nI 128) (by decide) ?_
  refine r_iald X eX6_take_8 (by omega) m1 (by omega) (by decide) ?_
  refine r_top (y := nI P1) e1 ?_
  refine pf_X6_45 X eX6_take_9 (by omega) m0 (fun w1 n1_w1 uu1 => ?_)
  have m1_w1 := (uu1 78 (by omega)).trans m1
  have m2_w1 := (uu1 79 (by omega)).trans m2
  have m3_w1 := (uu1 80 (by omega)).trans m3
  have m4_w1 := (uu1 81 (by omega)).trans m4
  have m5_w1 := (uu1 82 (by omega)).trans m5
  have m6_w1 := (uu1 83 (by omega)).trans m6
  have m7_w1 := (uu1 84 (by omega)).trans m7
  have m8_w1 := (uu1 85 (by omega)).trans m8
  have m9_w1 := (uu1 86 (by omega)).trans m9
  have m10_w1 := (uu1 87 (by omega)).trans m10
  have fr_w1 : ∀ j, (j < 77 ∨ 88 ≤ j) → w1 j = w j := fun j hj => (uu1 j (by omega)).trans (fr_w j hj)
  refine r_aload_n X eX6_take_12 rfl ?_
  refine r_aload_n X eX6_take_13 rfl ?_
  refine gf_X6_7 X eX6_take_14 (by omega) n1_w1 ?_
  refine r_sipush X eX6_take_17 (nI 129) (by decide) ?_
  refine r_iald X eX6_take_20 (by omega) m1_w1 (by omega) (by decide) ?_
  refine r_top (y := nI P2) e2 ?_
  refine pf_X6_49 X eX6_take_21 (by omega) n1_w1 (fun w2 n2_w2 uu2 => ?_)
  have m1_w2 := (uu2 78 (by omega)).trans m1_w1
  have m2_w2 := (uu2 79 (by omega)).trans m2_w1
  have m3_w2 := (uu2 80 (by omega)).trans m3_w1
  have m4_w2 := (uu2 81 (by omega)).trans m4_w1
  have m5_w2 := (uu2 82 (by omega)).trans m5_w1
  have m6_w2 := (uu2 83 (by omega)).trans m6_w1
  have m7_w2 := (uu2 84 (by omega)).trans m7_w1
  have m8_w2 := (uu2 85 (by omega)).trans m8_w1
  have m9_w2 := (uu2 86 (by omega)).trans m9_w1
  have m10_w2 := (uu2 87 (by omega)).trans m10_w1
  have fr_w2 : ∀ j, (j < 77 ∨ 88 ≤ j) → w2 j = w j := fun j hj => (uu2 j (by omega)).trans (fr_w1 j hj)
  refine r_iconst X eX6_take_24 (nI 0) (by decide) ?_
  refine r_istore_n X eX6_take_25 (Nat.le_of_ble_eq_true rfl) (L2 := [some (.ref (b + 77)), some (.int (nI 0))]) rfl ?_
  have lp3 : ∀ (fu : Nat) (i : Nat) (A M : Nat → Int32) (w3 : Wd), (i ≤ 64) → (∀ j, j < i → A j = st j ∧ M j = st (64 + j)) → (w3 77 = .inr (6, [.ref (b + 78), .ref (b + 79), .ref (b + 80), .ref (b + 81), .int (nI n), .ref (b + 82), .ref (b + 83), .int (nI P1), .int (nI P2), .ref (b + 84), .ref (b + 85), .int sc, .int kc, .int bc, .int bo, .int ag, .int bk, .ref (b + 86), .ref (b + 87)])) → (w3 78 = aI G 131 st) → (w3 79 = aI G 262 ims) → (w3 80 = aZ G 2 kf) → (w3 81 = aI G 80 sg) → (w3 82 = aI G 64 A) → (w3 83 = aI G 64 M) → (w3 84 = aI G 64 rs) → (w3 85 = aI G 8 se) → (w3 86 = aI G 6272 tt) → (w3 87 = aI G 49 tc) → (∀ j, (j < 77 ∨ 88 ≤ j) → w3 j = w j) → 64 - i < fu → V κ G b (N, 0, 0) w3 26 [some (.ref (b + 77)), some (.int (nI i))] [] := by
    intro fu
    induction fu with
    | zero => intro i A M w3 hi hz n2_w3 m1_w3 m2_w3 m3_w3 m4_w3 m5_w3 m6_w3 m7_w3 m8_w3 m9_w3 m10_w3 fr_w3 hm; exact absurd hm (Nat.not_lt_zero _)
    | succ fu ih3 =>
      intro i A M w3 hi hz n2_w3 m1_w3 m2_w3 m3_w3 m4_w3 m5_w3 m6_w3 m7_w3 m8_w3 m9_w3 m10_w3 fr_w3 hm
      refine r_iload_n X eX6_take_26 rfl ?_
      refine r_bipush X eX6_take_27 (nI 64) (by decide) ?_
      refine r_icmp_ge (tgt := 67) X eX6_take_29 (by decide) (nI_toInt (by omega)) (nI_toInt (by omega)) (fun c_4 => ?_) (fun c_4 => ?_)
      ·
        exact ret _ _ _ _ eX6_take_67 (⟨A, M, ⟨n2_w3, m1_w3, m2_w3, m3_w3, m4_w3, m5_w3, m6_w3, m7_w3, m8_w3, m9_w3, m10_w3⟩, fun j hj => hz j (by omega), fr_w3⟩)
      ·
        refine r_aload_n X eX6_take_32 rfl ?_
        refine gf_X6_23 X eX6_take_33 (by omega) n2_w3 ?_
        refine r_iload_n X eX6_take_36 rfl ?_
        refine r_aload_n X eX6_take_37 rfl ?_
        refine gf_X6_7 X eX6_take_38 (by omega) n2_w3 ?_
        refine r_iconst X eX6_take_41 (nI 0) (by decide) ?_
        refine r_iload_n X eX6_take_42 rfl ?_
        refine r_iadd X eX6_take_43 (nI i) (addN (by omega)) ?_
        refine r_iald X eX6_take_44 (by omega) m1_w3 (by omega) (by decide) ?_
        refine r_iast X eX6_take_45 (by omega) m5_w3 (by omega) (by decide) (fun w5 n5_w5 uu5 => ?_)
        have n2_w5 := (uu5 77 (by omega)).trans n2_w3
        have m1_w5 := (uu5 78 (by omega)).trans m1_w3
        have m2_w5 := (uu5 79 (by omega)).trans m2_w3
        have m3_w5 := (uu5 80 (by omega)).trans m3_w3
        have m4_w5 := (uu5 81 (by omega)).trans m4_w3
        have m6_w5 := (uu5 83 (by omega)).trans m6_w3
        have m7_w5 := (uu5 84 (by omega)).trans m7_w3
        have m8_w5 := (uu5 85 (by omega)).trans m8_w3
        have m9_w5 := (uu5 86 (by omega)).trans m9_w3
        have m10_w5 := (uu5 87 (by omega)).trans m10_w3
        have fr_w5 : ∀ j, (j < 77 ∨ 88 ≤ j) → w5 j = w j := fun j hj => (uu5 j (by omega)).trans (fr_w3 j hj)
        refine r_aload_n X eX6_take_46 rfl ?_
        refine gf_X6_26 X eX6_take_47 (by omega) n2_w5 ?_
        refine r_iload_n X eX6_take_50 rfl ?_
        refine r_aload_n X eX6_take_51 rfl ?_
        refine gf_X6_7 X eX6_take_52 (by omega) n2_w5 ?_
        refine r_bipush X eX6_take_55 (nI 64) (by decide) ?_
        refine r_iload_n X eX6_take_57 rfl ?_
        refine r_iadd X eX6_take_58 (nI (64 + i)) (addN rfl) ?_
        refine r_iald X eX6_take_59 (by omega) m1_w5 (by omega) (by decide) ?_
        refine r_iast X eX6_take_60 (by omega) m6_w5 (by omega) (by decide) (fun w6 n6_w6 uu6 => ?_)
        have n2_w6 := (uu6 77 (by omega)).trans n2_w5
        have m1_w6 := (uu6 78 (by omega)).trans m1_w5
        have m2_w6 := (uu6 79 (by omega)).trans m2_w5
        have m3_w6 := (uu6 80 (by omega)).trans m3_w5
        have m4_w6 := (uu6 81 (by omega)).trans m4_w5
        have n5_w6 := (uu6 82 (by omega)).trans n5_w5
        have m7_w6 := (uu6 84 (by omega)).trans m7_w5
        have m8_w6 := (uu6 85 (by omega)).trans m8_w5
        have m9_w6 := (uu6 86 (by omega)).trans m9_w5
        have m10_w6 := (uu6 87 (by omega)).trans m10_w5
        have fr_w6 : ∀ j, (j < 77 ∨ 88 ≤ j) → w6 j = w j := fun j hj => (uu6 j (by omega)).trans (fr_w5 j hj)
        refine r_iinc X eX6_take_61 rfl (nI (i + 1)) (inc_nI _) (L2 := [some (.ref (b + 77)), some (.int (nI (i + 1)))]) rfl ?_
        refine r_goto (tgt := 26) X eX6_take_64 (by decide) ?_
        exact ih3 (i + 1) (upd A i (st i)) (upd M i (st (64 + i))) w6 (by omega) (fun j hj => upd2_c (ma := fun j => st (64 + j)) hz hj) n2_w6 m1_w6 m2_w6 m3_w6 m4_w6 n5_w6 n6_w6 m7_w6 m8_w6 m9_w6 m10_w6 fr_w6 (by omega)
  exact lp3 _ 0 gr mk w2 (by omega) (fun j hj => absurd hj (by omega)) n2_w2 m1_w2 m2_w2 m3_w2 m4_w2 m5_w2 m6_w2 m7_w2 m8_w2 m9_w2 m10_w2 fr_w2 (Nat.lt_succ_self _)
set_option maxHeartbeats 4000000 in
set_option maxRecDepth 100000 in
theorem c_X6_give (l : Launch) (G : Gs) (b N : Nat) (w : Wd) (hN : 88 ≤ N) (n wd hg : Nat) (sc kc bc bo ag bk : Int32) (st ims kf sg gr mk rs se tt tc : Nat → Int32) (hm : mW G b w n wd hg sc kc bc bo ag bk st ims kf sg gr mk rs se tt tc) (h8 : wd ≤ 8) (h9 : hg ≤ 8) : CV l yX6_give cX6_give 3 0 G b N w [.ref (b + 77)] (fun w2 => ∃ st2, mW G b w2 n wd hg sc kc bc bo ag bk st2 ims kf sg gr mk rs se tt tc ∧ (∀ j, j < 64 → st2 j = (if j % 8 < wd ∧ j / 8 < hg then gr j else 0) ∧ st2 (64 + j) = (if j % 8 < wd ∧ j / 8 < hg then mk j else 0)) ∧ st2 128 = nI wd ∧ st2 129 = nI hg ∧ st2 130 = st 130 ∧ ∀ j, (j < 77 ∨ 88 ≤ j) → w2 j = w j) := by
  obtain ⟨m0, m1, m2, m3, m4, m5, m6, m7, m8, m9, m10⟩ := hm
  refine CV_of (L0 := [some (.ref (b + 77)), none, none]) (by decide) rfl (by simp [Value.category]) rfl (Nat.le_of_ble_eq_true rfl) (fun κ X ret => ?_)
  have fr_w : ∀ j, (j < 77 ∨ 88 ≤ j) → w j = w j := fun _ _ => rfl
  refine r_aload_n X eX6_give_0 rfl ?_
  refine gf_X6_7 X eX6_give_1 (by omega) m0 ?_
  refine r_sipush X eX6_give_4 (nI 128) (by decide) ?_
  refine r_aload_n X eX6_give_7 rfl ?_
  refine gf_X6_45 X eX6_give_8 (by omega) m0 ?_
  refine r_iast X eX6_give_11 (by omega) m1 (by omega) (by decide) (fun w1 n1_w1 uu1 => ?_)
  have m0_w1 := (uu1 77 (by omega)).trans m0
  have m2_w1 := (uu1 79 (by omega)).trans m2
  have m3_w1 := (uu1 80 (by omega)).trans m3
  have m4_w1 := (uu1 81 (by omega)).trans m4
  have m5_w1 := (uu1 82 (by omega)).trans m5
  have m6_w1 := (uu1 83 (by omega)).trans m6
  have m7_w1 := (uu1 84 (by omega)).trans m7
  have m8_w1 := (uu1 85 (by omega)).trans m8
  have m9_w1 := (uu1 86 (by omega)).trans m9
  have m10_w1 := (uu1 87 (by omega)).trans m10
  have fr_w1 : ∀ j, (j < 77 ∨ 88 ≤ j) → w1 j = w j := fun j hj => (uu1 j (by omega)).trans (fr_w j hj)
  refine r_aload_n X eX6_give_12 rfl ?_
  refine gf_X6_7 X eX6_give_13 (by omega) m0_w1 ?_
  refine r_sipush X eX6_give_16 (nI 129) (by decide) ?_
  refine r_aload_n X eX6_give_19 rfl ?_
  refine gf_X6_49 X eX6_give_20 (by omega) m0_w1 ?_
  refine r_iast X eX6_give_23 (by omega) n1_w1 (by omega) (by decide) (fun w2 n2_w2 uu2 => ?_)
  have m0_w2 := (uu2 77 (by omega)).trans m0_w1
  have m2_w2 := (uu2 79 (by omega)).trans m2_w1
  have m3_w2 := (uu2 80 (by omega)).trans m3_w1
  have m4_w2 := (uu2 81 (by omega)).trans m4_w1
  have m5_w2 := (uu2 82 (by omega)).trans m5_w1
  have m6_w2 := (uu2 83 (by omega)).trans m6_w1
  have m7_w2 := (uu2 84 (by omega)).trans m7_w1
  have m8_w2 := (uu2 85 (by omega)).trans m8_w1
  have m9_w2 := (uu2 86 (by omega)).trans m9_w1
  have m10_w2 := (uu2 87 (by omega)).trans m10_w1
  have fr_w2 : ∀ j, (j < 77 ∨ 88 ≤ j) → w2 j = w j := fun j hj => (uu2 j (by omega)).trans (fr_w1 j hj)
  refine r_iconst X eX6_give_24 (nI 0) (by decide) ?_
  refine r_istore_n X eX6_give_25 (Nat.le_of_ble_eq_true rfl) (L2 := [some (.ref (b + 77)), some (.int (nI 0)), none]) rfl ?_
  have lp3 : ∀ (fu : Nat) (i : Nat) (A : Nat → Int32) (w3 : Wd), (i ≤ 64) → (∀ j, j < i → A j = (if j % 8 < wd ∧ j / 8 < hg then gr j else 0) ∧ A (64 + j) = (if j % 8 < wd ∧ j / 8 < hg then mk j else 0)) → (A 128 = nI wd ∧ A 129 = nI hg ∧ A 130 = st 130) → (w3 77 = .inr (6, [.ref (b + 78), .ref (b + 79), .ref (b + 80), .ref (b + 81), .int (nI n), .ref (b + 82), .ref (b + 83), .int (nI wd), .int (nI hg), .ref (b + 84), .ref (b + 85), .int sc, .int kc, .int bc, .int bo, .int ag, .int bk, .ref (b + 86), .ref (b + 87)])) → (w3 78 = aI G 131 A) → (w3 79 = aI G 262 ims) → (w3 80 = aZ G 2 kf) → (w3 81 = aI G 80 sg) → (w3 82 = aI G 64 gr) → (w3 83 = aI G 64 mk) → (w3 84 = aI G 64 rs) → (w3 85 = aI G 8 se) → (w3 86 = aI G 6272 tt) → (w3 87 = aI G 49 tc) → (∀ j, (j < 77 ∨ 88 ≤ j) → w3 j = w j) → 64 - i < fu → V κ G b (N, 0, 0) w3 26 [some (.ref (b + 77)), some (.int (nI i)), none] [] := by
    intro fu
    induction fu with
    | zero => intro i A w3 hi hz ha m0_w3 n2_w3 m2_w3 m3_w3 m4_w3 m5_w3 m6_w3 m7_w3 m8_w3 m9_w3 m10_w3 fr_w3 hm; exact absurd hm (Nat.not_lt_zero _)
    | succ fu ih3 =>
      intro i A w3 hi hz ha m0_w3 n2_w3 m2_w3 m3_w3 m4_w3 m5_w3 m6_w3 m7_w3 m8_w3 m9_w3 m10_w3 fr_w3 hm
      refine r_iload_n X eX6_give_26 rfl ?_
      refine r_bipush X eX6_give_27 (nI 64) (by decide) ?_
      refine r_icmp_ge (tgt := 111) X eX6_give_29 (by decide) (nI_toInt (by omega)) (nI_toInt (by omega)) (fun c_4 => ?_) (fun c_4 => ?_)
      ·
        exact ret _ _ _ _ eX6_give_111 (⟨A, ⟨m0_w3, n2_w3, m2_w3, m3_w3, m4_w3, m5_w3, m6_w3, m7_w3, m8_w3, m9_w3, m10_w3⟩, fun j hj => hz j (by omega), ha.1, ha.2.1, ha.2.2, fr_w3⟩)
      ·
        refine r_iload_n X eX6_give_32 rfl ?_
        refine r_bipush X eX6_give_33 (nI 8) (by decide) ?_
        refine r_irem X eX6_give_35 (nI_ne0 (by omega) (by omega)) (nI (i % 8)) (pk_rem (by omega) (by omega) (by omega)) ?_
        refine r_aload_n X eX6_give_36 rfl ?_
        refine gf_X6_45 X eX6_give_37 (by omega) m0_w3 ?_
        refine r_icmp_ge (tgt := 58) X eX6_give_40 (by decide) (nI_toInt (by omega)) (nI_toInt (by omega)) (fun c_5 => ?_) (fun c_5 => ?_)
        ·
          refine r_iconst X eX6_give_58 (nI 0) (by decide) ?_
          refine r_top (y := bI (i % 8 < wd ∧ i / 8 < hg)) (bI_f (by omega)) ?_
          refine r_istore_n X eX6_give_59 (Nat.le_of_ble_eq_true rfl) (L2 := [some (.ref (b + 77)), some (.int (nI i)), some (.int (bI (i % 8 < wd ∧ i / 8 < hg)))]) rfl ?_
          refine r_aload_n X eX6_give_60 rfl ?_
          refine gf_X6_7 X eX6_give_61 (by omega) m0_w3 ?_
          refine r_iconst X eX6_give_64 (nI 0) (by decide) ?_
          refine r_iload_n X eX6_give_65 rfl ?_
          refine r_iadd X eX6_give_66 (nI i) (addN (by omega)) ?_
          refine r_iload_n X eX6_give_67 rfl ?_
          refine r_ifeq_b (tgt := 80) X eX6_give_68 (by decide) (fun c_6 => ?_) (fun c_6 => ?_)
          ·
            refine r_iconst X eX6_give_80 ((0 : Int32)) (by decide) ?_
            refine r_top (y := if i % 8 < wd ∧ i / 8 < hg then gr i else 0) ((if_neg c_6).symm) ?_
            refine r_iast X eX6_give_81 (by omega) n2_w3 (by omega) (by decide) (fun w7 n7_w7 uu7 => ?_)
            have m0_w7 := (uu7 77 (by omega)).trans m0_w3
            have m2_w7 := (uu7 79 (by omega)).trans m2_w3
            have m3_w7 := (uu7 80 (by omega)).trans m3_w3
            have m4_w7 := (uu7 81 (by omega)).trans m4_w3
            have m5_w7 := (uu7 82 (by omega)).trans m5_w3
            have m6_w7 := (uu7 83 (by omega)).trans m6_w3
            have m7_w7 := (uu7 84 (by omega)).trans m7_w3
            have m8_w7 := (uu7 85 (by omega)).trans m8_w3
            have m9_w7 := (uu7 86 (by omega)).trans m9_w3
            have m10_w7 := (uu7 87 (by omega)).trans m10_w3
            have fr_w7 : ∀ j, (j < 77 ∨ 88 ≤ j) → w7 j = w j := fun j hj => (uu7 j (by omega)).trans (fr_w3 j hj)
            refine r_aload_n X eX6_give_82 rfl ?_
            refine gf_X6_7 X eX6_give_83 (by omega) m0_w7 ?_
            refine r_bipush X eX6_give_86 (nI 64) (by decide) ?_
            refine r_iload_n X eX6_give_88 rfl ?_
            refine r_iadd X eX6_give_89 (nI (64 + i)) (addN rfl) ?_
            refine r_iload_n X eX6_give_90 rfl ?_
            refine r_ifeq_b (tgt := 103) X eX6_give_91 (by decide) (fun c_8 => ?_) (fun c_8 => ?_)
            ·
              refine r_iconst X eX6_give_103 ((0 : Int32)) (by decide) ?_
              refine r_top (y := if i % 8 < wd ∧ i / 8 < hg then mk i else 0) ((if_neg c_8).symm) ?_
              refine r_iast X eX6_give_104 (by omega) n7_w7 (by omega) (by decide) (fun w9 n9_w9 uu9 => ?_)
              have m0_w9 := (uu9 77 (by omega)).trans m0_w7
              have m2_w9 := (uu9 79 (by omega)).trans m2_w7
              have m3_w9 := (uu9 80 (by omega)).trans m3_w7
              have m4_w9 := (uu9 81 (by omega)).trans m4_w7
              have m5_w9 := (uu9 82 (by omega)).trans m5_w7
              have m6_w9 := (uu9 83 (by omega)).trans m6_w7
              have m7_w9 := (uu9 84 (by omega)).trans m7_w7
              have m8_w9 := (uu9 85 (by omega)).trans m8_w7
              have m9_w9 := (uu9 86 (by omega)).trans m9_w7
              have m10_w9 := (uu9 87 (by omega)).trans m10_w7
              have fr_w9 : ∀ j, (j < 77 ∨ 88 ≤ j) → w9 j = w j := fun j hj => (uu9 j (by omega)).trans (fr_w7 j hj)
              refine r_iinc X eX6_give_105 rfl (nI (i + 1)) (inc_nI _) (L2 := [some (.ref (b + 77)), some (.int (nI (i + 1))), some (.int (bI (i % 8 < wd ∧ i / 8 < hg)))]) rfl ?_
              refine r_goto (tgt := 26) X eX6_give_108 (by decide) ?_
              refine r_fg 2 (L2 := [some (.ref (b + 77)), some (.int (nI (i + 1))), none]) rfl ?_
              exact ih3 (i + 1) (upd (upd A i ((if i % 8 < wd ∧ i / 8 < hg then gr i else 0))) (64 + i) ((if i % 8 < wd ∧ i / 8 < hg then mk i else 0))) w9 (by omega) (fun j hj => give_st hz (by omega) rfl rfl hj) ⟨by rw [upd_ne (by omega), upd_ne (by omega)]; exact ha.1, by rw [upd_ne (by omega), upd_ne (by omega)]; exact ha.2.1, by rw [upd_ne (by omega), upd_ne (by omega)]; exact ha.2.2⟩ m0_w9 n9_w9 m2_w9 m3_w9 m4_w9 m5_w9 m6_w9 m7_w9 m8_w9 m9_w9 m10_w9 fr_w9 (by omega)
            ·
              refine r_aload_n X eX6_give_94 rfl ?_
              refine gf_X6_26 X eX6_give_95 (by omega) m0_w7 ?_
              refine r_iload_n X eX6_give_98 rfl ?_
              refine r_iald X eX6_give_99 (by omega) m6_w7 (by omega) (by decide) ?_
              refine r_goto (tgt := 104) X eX6_give_100 (by decide) ?_
              refine r_top (y := if i % 8 < wd ∧ i / 8 < hg then mk i else 0) ((if_pos c_8).symm) ?_
              refine r_iast X eX6_give_104 (by omega) n7_w7 (by omega) (by decide) (fun w10 n10_w10 uu10 => ?_)
              have m0_w10 := (uu10 77 (by omega)).trans m0_w7
              have m2_w10 := (uu10 79 (by omega)).trans m2_w7
              have m3_w10 := (uu10 80 (by omega)).trans m3_w7
              have m4_w10 := (uu10 81 (by omega)).trans m4_w7
              have m5_w10 := (uu10 82 (by omega)).trans m5_w7
              have m6_w10 := (uu10 83 (by omega)).trans m6_w7
              have m7_w10 := (uu10 84 (by omega)).trans m7_w7
              have m8_w10 := (uu10 85 (by omega)).trans m8_w7
              have m9_w10 := (uu10 86 (by omega)).trans m9_w7
              have m10_w10 := (uu10 87 (by omega)).trans m10_w7
              have fr_w10 : ∀ j, (j < 77 ∨ 88 ≤ j) → w10 j = w j := fun j hj => (uu10 j (by omega)).trans (fr_w7 j hj)
              refine r_iinc X eX6_give_105 rfl (nI (i + 1)) (inc_nI _) (L2 := [some (.ref (b + 77)), some (.int (nI (i + 1))), some (.int (bI (i % 8 < wd ∧ i / 8 < hg)))]) rfl ?_
              refine r_goto (tgt := 26) X eX6_give_108 (by decide) ?_
              refine r_fg 2 (L2 := [some (.ref (b + 77)), some (.int (nI (i + 1))), none]) rfl ?_
              exact ih3 (i + 1) (upd (upd A i ((if i % 8 < wd ∧ i / 8 < hg then gr i else 0))) (64 + i) ((if i % 8 < wd ∧ i / 8 < hg then mk i else 0))) w10 (by omega) (fun j hj => give_st hz (by omega) rfl rfl hj) ⟨by rw [upd_ne (by omega), upd_ne (by omega)]; exact ha.1, by rw [upd_ne (by omega), upd_ne (by omega)]; exact ha.2.1, by rw [upd_ne (by omega), upd_ne (by omega)]; exact ha.2.2⟩ m0_w10 n10_w10 m2_w10 m3_w10 m4_w10 m5_w10 m6_w10 m7_w10 m8_w10 m9_w10 m10_w10 fr_w10 (by omega)
          ·
            refine r_aload_n X eX6_give_71 rfl ?_
            refine gf_X6_23 X eX6_give_72 (by omega) m0_w3 ?_
            refine r_iload_n X eX6_give_75 rfl ?_
            refine r_iald X eX6_give_76 (by omega) m5_w3 (by omega) (by decide) ?_
            refine r_goto (tgt := 81) X eX6_give_77 (by decide) ?_
            refine r_top (y := if i % 8 < wd ∧ i / 8 < hg then gr i else 0) ((if_pos c_6).symm) ?_
            refine r_iast X eX6_give_81 (by omega) n2_w3 (by omega) (by decide) (fun w11 n11_w11 uu11 => ?_)
            have m0_w11 := (uu11 77 (by omega)).trans m0_w3
            have m2_w11 := (uu11 79 (by omega)).trans m2_w3
            have m3_w11 := (uu11 80 (by omega)).trans m3_w3
            have m4_w11 := (uu11 81 (by omega)).trans m4_w3
            have m5_w11 := (uu11 82 (by omega)).trans m5_w3
            have m6_w11 := (uu11 83 (by omega)).trans m6_w3
            have m7_w11 := (uu11 84 (by omega)).trans m7_w3
            have m8_w11 := (uu11 85 (by omega)).trans m8_w3
            have m9_w11 := (uu11 86 (by omega)).trans m9_w3
            have m10_w11 := (uu11 87 (by omega)).trans m10_w3
            have fr_w11 : ∀ j, (j < 77 ∨ 88 ≤ j) → w11 j = w j := fun j hj => (uu11 j (by omega)).trans (fr_w3 j hj)
            refine r_aload_n X eX6_give_82 rfl ?_
            refine gf_X6_7 X eX6_give_83 (by omega) m0_w11 ?_
            refine r_bipush X eX6_give_86 (nI 64) (by decide) ?_
            refine r_iload_n X eX6_give_88 rfl ?_
            refine r_iadd X eX6_give_89 (nI (64 + i)) (addN rfl) ?_
            refine r_iload_n X eX6_give_90 rfl ?_
            refine r_ifeq_b (tgt := 103) X eX6_give_91 (by decide) (fun c_12 => ?_) (fun c_12 => ?_)
            ·
              refine r_iconst X eX6_give_103 ((0 : Int32)) (by decide) ?_
              refine r_top (y := if i % 8 < wd ∧ i / 8 < hg then mk i else 0) ((if_neg c_12).symm) ?_
              refine r_iast X eX6_give_104 (by omega) n11_w11 (by omega) (by decide) (fun w13 n13_w13 uu13 => ?_)
              have m0_w13 := (uu13 77 (by omega)).trans m0_w11
              have m2_w13 := (uu13 79 (by omega)).trans m2_w11
              have m3_w13 := (uu13 80 (by omega)).trans m3_w11
              have m4_w13 := (uu13 81 (by omega)).trans m4_w11
              have m5_w13 := (uu13 82 (by omega)).trans m5_w11
              have m6_w13 := (uu13 83 (by omega)).trans m6_w11
              have m7_w13 := (uu13 84 (by omega)).trans m7_w11
              have m8_w13 := (uu13 85 (by omega)).trans m8_w11
              have m9_w13 := (uu13 86 (by omega)).trans m9_w11
              have m10_w13 := (uu13 87 (by omega)).trans m10_w11
              have fr_w13 : ∀ j, (j < 77 ∨ 88 ≤ j) → w13 j = w j := fun j hj => (uu13 j (by omega)).trans (fr_w11 j hj)
              refine r_iinc X eX6_give_105 rfl (nI (i + 1)) (inc_nI _) (L2 := [some (.ref (b + 77)), some (.int (nI (i + 1))), some (.int (bI (i % 8 < wd ∧ i / 8 < hg)))]) rfl ?_
              refine r_goto (tgt := 26) X eX6_give_108 (by decide) ?_
              refine r_fg 2 (L2 := [some (.ref (b + 77)), some (.int (nI (i + 1))), none]) rfl ?_
              exact ih3 (i + 1) (upd (upd A i ((if i % 8 < wd ∧ i / 8 < hg then gr i else 0))) (64 + i) ((if i % 8 < wd ∧ i / 8 < hg then mk i else 0))) w13 (by omega) (fun j hj => give_st hz (by omega) rfl rfl hj) ⟨by rw [upd_ne (by omega), upd_ne (by omega)]; exact ha.1, by rw [upd_ne (by omega), upd_ne (by omega)]; exact ha.2.1, by rw [upd_ne (by omega), upd_ne (by omega)]; exact ha.2.2⟩ m0_w13 n13_w13 m2_w13 m3_w13 m4_w13 m5_w13 m6_w13 m7_w13 m8_w13 m9_w13 m10_w13 fr_w13 (by omega)
            ·
              refine r_aload_n X eX6_give_94 rfl ?_
              refine gf_X6_26 X eX6_give_95 (by omega) m0_w11 ?_
              refine r_iload_n X eX6_give_98 rfl ?_
              refine r_iald X eX6_give_99 (by omega) m6_w11 (by omega) (by decide) ?_
              refine r_goto (tgt := 104) X eX6_give_100 (by decide) ?_
              refine r_top (y := if i % 8 < wd ∧ i / 8 < hg then mk i else 0) ((if_pos c_12).symm) ?_
              refine r_iast X eX6_give_104 (by omega) n11_w11 (by omega) (by decide) (fun w14 n14_w14 uu14 => ?_)
              have m0_w14 := (uu14 77 (by omega)).trans m0_w11
              have m2_w14 := (uu14 79 (by omega)).trans m2_w11
              have m3_w14 := (uu14 80 (by omega)).trans m3_w11
              have m4_w14 := (uu14 81 (by omega)).trans m4_w11
              have m5_w14 := (uu14 82 (by omega)).trans m5_w11
              have m6_w14 := (uu14 83 (by omega)).trans m6_w11
              have m7_w14 := (uu14 84 (by omega)).trans m7_w11
              have m8_w14 := (uu14 85 (by omega)).trans m8_w11
              have m9_w14 := (uu14 86 (by omega)).trans m9_w11
              have m10_w14 := (uu14 87 (by omega)).trans m10_w11
              have fr_w14 : ∀ j, (j < 77 ∨ 88 ≤ j) → w14 j = w j := fun j hj => (uu14 j (by omega)).trans (fr_w11 j hj)
              refine r_iinc X eX6_give_105 rfl (nI (i + 1)) (inc_nI _) (L2 := [some (.ref (b + 77)), some (.int (nI (i + 1))), some (.int (bI (i % 8 < wd ∧ i / 8 < hg)))]) rfl ?_
              refine r_goto (tgt := 26) X eX6_give_108 (by decide) ?_
              refine r_fg 2 (L2 := [some (.ref (b + 77)), some (.int (nI (i + 1))), none]) rfl ?_
              exact ih3 (i + 1) (upd (upd A i ((if i % 8 < wd ∧ i / 8 < hg then gr i else 0))) (64 + i) ((if i % 8 < wd ∧ i / 8 < hg then mk i else 0))) w14 (by omega) (fun j hj => give_st hz (by omega) rfl rfl hj) ⟨by rw [upd_ne (by omega), upd_ne (by omega)]; exact ha.1, by rw [upd_ne (by omega), upd_ne (by omega)]; exact ha.2.1, by rw [upd_ne (by omega), upd_ne (by omega)]; exact ha.2.2⟩ m0_w14 n14_w14 m2_w14 m3_w14 m4_w14 m5_w14 m6_w14 m7_w14 m8_w14 m9_w14 m10_w14 fr_w14 (by omega)
        ·
          refine r_iload_n X eX6_give_43 rfl ?_
          refine r_bipush X eX6_give_44 (nI 8) (by decide) ?_
          refine r_idiv X eX6_give_46 (nI_ne0 (by omega) (by omega)) (nI (i / 8)) (pk_div (by omega) (by omega) (by omega)) ?_
          refine r_aload_n X eX6_give_47 rfl ?_
          refine gf_X6_49 X eX6_give_48 (by omega) m0_w3 ?_
          refine r_icmp_ge (tgt := 58) X eX6_give_51 (by decide) (nI_toInt (by omega)) (nI_toInt (by omega)) (fun c_15 => ?_) (fun c_15 => ?_)
          ·
            refine r_iconst X eX6_give_58 (nI 0) (by decide) ?_
            refine r_top (y := bI (i % 8 < wd ∧ i / 8 < hg)) (bI_f (by omega)) ?_
            refine r_istore_n X eX6_give_59 (Nat.le_of_ble_eq_true rfl) (L2 := [some (.ref (b + 77)), some (.int (nI i)), some (.int (bI (i % 8 < wd ∧ i / 8 < hg)))]) rfl ?_
            refine r_aload_n X eX6_give_60 rfl ?_
            refine gf_X6_7 X eX6_give_61 (by omega) m0_w3 ?_
            refine r_iconst X eX6_give_64 (nI 0) (by decide) ?_
            refine r_iload_n X eX6_give_65 rfl ?_
            refine r_iadd X eX6_give_66 (nI i) (addN (by omega)) ?_
            refine r_iload_n X eX6_give_67 rfl ?_
            refine r_ifeq_b (tgt := 80) X eX6_give_68 (by decide) (fun c_16 => ?_) (fun c_16 => ?_)
            ·
              refine r_iconst X eX6_give_80 ((0 : Int32)) (by decide) ?_
              refine r_top (y := if i % 8 < wd ∧ i / 8 < hg then gr i else 0) ((if_neg c_16).symm) ?_
              refine r_iast X eX6_give_81 (by omega) n2_w3 (by omega) (by decide) (fun w17 n17_w17 uu17 => ?_)
              have m0_w17 := (uu17 77 (by omega)).trans m0_w3
              have m2_w17 := (uu17 79 (by omega)).trans m2_w3
              have m3_w17 := (uu17 80 (by omega)).trans m3_w3
              have m4_w17 := (uu17 81 (by omega)).trans m4_w3
              have m5_w17 := (uu17 82 (by omega)).trans m5_w3
              have m6_w17 := (uu17 83 (by omega)).trans m6_w3
              have m7_w17 := (uu17 84 (by omega)).trans m7_w3
              have m8_w17 := (uu17 85 (by omega)).trans m8_w3
              have m9_w17 := (uu17 86 (by omega)).trans m9_w3
              have m10_w17 := (uu17 87 (by omega)).trans m10_w3
              have fr_w17 : ∀ j, (j < 77 ∨ 88 ≤ j) → w17 j = w j := fun j hj => (uu17 j (by omega)).trans (fr_w3 j hj)
              refine r_aload_n X eX6_give_82 rfl ?_
              refine gf_X6_7 X eX6_give_83 (by omega) m0_w17 ?_
              refine r_bipush X eX6_give_86 (nI 64) (by decide) ?_
              refine r_iload_n X eX6_give_88 rfl ?_
              refine r_iadd X eX6_give_89 (nI (64 + i)) (addN rfl) ?_
              refine r_iload_n X eX6_give_90 rfl ?_
              refine r_ifeq_b (tgt := 103) X eX6_give_91 (by decide) (fun c_18 => ?_) (fun c_18 => ?_)
              ·
                refine r_iconst X eX6_give_103 ((0 : Int32)) (by decide) ?_
                refine r_top (y := if i % 8 < wd ∧ i / 8 < hg then mk i else 0) ((if_neg c_18).symm) ?_
                refine r_iast X eX6_give_104 (by omega) n17_w17 (by omega) (by decide) (fun w19 n19_w19 uu19 => ?_)
                have m0_w19 := (uu19 77 (by omega)).trans m0_w17
                have m2_w19 := (uu19 79 (by omega)).trans m2_w17
                have m3_w19 := (uu19 80 (by omega)).trans m3_w17
                have m4_w19 := (uu19 81 (by omega)).trans m4_w17
                have m5_w19 := (uu19 82 (by omega)).trans m5_w17
                have m6_w19 := (uu19 83 (by omega)).trans m6_w17
                have m7_w19 := (uu19 84 (by omega)).trans m7_w17
                have m8_w19 := (uu19 85 (by omega)).trans m8_w17
                have m9_w19 := (uu19 86 (by omega)).trans m9_w17
                have m10_w19 := (uu19 87 (by omega)).trans m10_w17
                have fr_w19 : ∀ j, (j < 77 ∨ 88 ≤ j) → w19 j = w j := fun j hj => (uu19 j (by omega)).trans (fr_w17 j hj)
                refine r_iinc X eX6_give_105 rfl (nI (i + 1)) (inc_nI _) (L2 := [some (.ref (b + 77)), some (.int (nI (i + 1))), some (.int (bI (i % 8 < wd ∧ i / 8 < hg)))]) rfl ?_
                refine r_goto (tgt := 26) X eX6_give_108 (by decide) ?_
                refine r_fg 2 (L2 := [some (.ref (b + 77)), some (.int (nI (i + 1))), none]) rfl ?_
                exact ih3 (i + 1) (upd (upd A i ((if i % 8 < wd ∧ i / 8 < hg then gr i else 0))) (64 + i) ((if i % 8 < wd ∧ i / 8 < hg then mk i else 0))) w19 (by omega) (fun j hj => give_st hz (by omega) rfl rfl hj) ⟨by rw [upd_ne (by omega), upd_ne (by omega)]; exact ha.1, by rw [upd_ne (by omega), upd_ne (by omega)]; exact ha.2.1, by rw [upd_ne (by omega), upd_ne (by omega)]; exact ha.2.2⟩ m0_w19 n19_w19 m2_w19 m3_w19 m4_w19 m5_w19 m6_w19 m7_w19 m8_w19 m9_w19 m10_w19 fr_w19 (by omega)
              ·
                refine r_aload_n X eX6_give_94 rfl ?_
                refine gf_X6_26 X eX6_give_95 (by omega) m0_w17 ?_
                refine r_iload_n X eX6_give_98 rfl ?_
                refine r_iald X eX6_give_99 (by omega) m6_w17 (by omega) (by decide) ?_
                refine r_goto (tgt := 104) X eX6_give_100 (by decide) ?_
                refine r_top (y := if i % 8 < wd ∧ i / 8 < hg then mk i else 0) ((if_pos c_18).symm) ?_
                refine r_iast X eX6_give_104 (by omega) n17_w17 (by omega) (by decide) (fun w20 n20_w20 uu20 => ?_)
                have m0_w20 := (uu20 77 (by omega)).trans m0_w17
                have m2_w20 := (uu20 79 (by omega)).trans m2_w17
                have m3_w20 := (uu20 80 (by omega)).trans m3_w17
                have m4_w20 := (uu20 81 (by omega)).trans m4_w17
                have m5_w20 := (uu20 82 (by omega)).trans m5_w17
                have m6_w20 := (uu20 83 (by omega)).trans m6_w17
                have m7_w20 := (uu20 84 (by omega)).trans m7_w17
                have m8_w20 := (uu20 85 (by omega)).trans m8_w17
                have m9_w20 := (uu20 86 (by omega)).trans m9_w17
                have m10_w20 := (uu20 87 (by omega)).trans m10_w17
                have fr_w20 : ∀ j, (j < 77 ∨ 88 ≤ j) → w20 j = w j := fun j hj => (uu20 j (by omega)).trans (fr_w17 j hj)
                refine r_iinc X eX6_give_105 rfl (nI (i + 1)) (inc_nI _) (L2 := [some (.ref (b + 77)), some (.int (nI (i + 1))), some (.int (bI (i % 8 < wd ∧ i / 8 < hg)))]) rfl ?_
                refine r_goto (tgt := 26) X eX6_give_108 (by decide) ?_
                refine r_fg 2 (L2 := [some (.ref (b + 77)), some (.int (nI (i + 1))), none]) rfl ?_
                exact ih3 (i + 1) (upd (upd A i ((if i % 8 < wd ∧ i / 8 < hg then gr i else 0))) (64 + i) ((if i % 8 < wd ∧ i / 8 < hg then mk i else 0))) w20 (by omega) (fun j hj => give_st hz (by omega) rfl rfl hj) ⟨by rw [upd_ne (by omega), upd_ne (by omega)]; exact ha.1, by rw [upd_ne (by omega), upd_ne (by omega)]; exact ha.2.1, by rw [upd_ne (by omega), upd_ne (by omega)]; exact ha.2.2⟩ m0_w20 n20_w20 m2_w20 m3_w20 m4_w20 m5_w20 m6_w20 m7_w20 m8_w20 m9_w20 m10_w20 fr_w20 (by omega)
            ·
              refine r_aload_n X eX6_give_71 rfl ?_
              refine gf_X6_23 X eX6_give_72 (by omega) m0_w3 ?_
              refine r_iload_n X eX6_give_75 rfl ?_
              refine r_iald X eX6_give_76 (by omega) m5_w3 (by omega) (by decide) ?_
              refine r_goto (tgt := 81) X eX6_give_77 (by decide) ?_
              refine r_top (y := if i % 8 < wd ∧ i / 8 < hg then gr i else 0) ((if_pos c_16).symm) ?_
              refine r_iast X eX6_give_81 (by omega) n2_w3 (by omega) (by decide) (fun w21 n21_w21 uu21 => ?_)
              have m0_w21 := (uu21 77 (by omega)).trans m0_w3
              have m2_w21 := (uu21 79 (by omega)).trans m2_w3
              have m3_w21 := (uu21 80 (by omega)).trans m3_w3
              have m4_w21 := (uu21 81 (by omega)).trans m4_w3
              have m5_w21 := (uu21 82 (by omega)).trans m5_w3
              have m6_w21 := (uu21 83 (by omega)).trans m6_w3
              have m7_w21 := (uu21 84 (by omega)).trans m7_w3
              have m8_w21 := (uu21 85 (by omega)).trans m8_w3
              have m9_w21 := (uu21 86 (by omega)).trans m9_w3
              have m10_w21 := (uu21 87 (by omega)).trans m10_w3
              have fr_w21 : ∀ j, (j < 77 ∨ 88 ≤ j) → w21 j = w j := fun j hj => (uu21 j (by omega)).trans (fr_w3 j hj)
              refine r_aload_n X eX6_give_82 rfl ?_
              refine gf_X6_7 X eX6_give_83 (by omega) m0_w21 ?_
              refine r_bipush X eX6_give_86 (nI 64) (by decide) ?_
              refine r_iload_n X eX6_give_88 rfl ?_
              refine r_iadd X eX6_give_89 (nI (64 + i)) (addN rfl) ?_
              refine r_iload_n X eX6_give_90 rfl ?_
              refine r_ifeq_b (tgt := 103) X eX6_give_91 (by decide) (fun c_22 => ?_) (fun c_22 => ?_)
              ·
                refine r_iconst X eX6_give_103 ((0 : Int32)) (by decide) ?_
                refine r_top (y := if i % 8 < wd ∧ i / 8 < hg then mk i else 0) ((if_neg c_22).symm) ?_
                refine r_iast X eX6_give_104 (by omega) n21_w21 (by omega) (by decide) (fun w23 n23_w23 uu23 => ?_)
                have m0_w23 := (uu23 77 (by omega)).trans m0_w21
                have m2_w23 := (uu23 79 (by omega)).trans m2_w21
                have m3_w23 := (uu23 80 (by omega)).trans m3_w21
                have m4_w23 := (uu23 81 (by omega)).trans m4_w21
                have m5_w23 := (uu23 82 (by omega)).trans m5_w21
                have m6_w23 := (uu23 83 (by omega)).trans m6_w21
                have m7_w23 := (uu23 84 (by omega)).trans m7_w21
                have m8_w23 := (uu23 85 (by omega)).trans m8_w21
                have m9_w23 := (uu23 86 (by omega)).trans m9_w21
                have m10_w23 := (uu23 87 (by omega)).trans m10_w21
                have fr_w23 : ∀ j, (j < 77 ∨ 88 ≤ j) → w23 j = w j := fun j hj => (uu23 j (by omega)).trans (fr_w21 j hj)
                refine r_iinc X eX6_give_105 rfl (nI (i + 1)) (inc_nI _) (L2 := [some (.ref (b + 77)), some (.int (nI (i + 1))), some (.int (bI (i % 8 < wd ∧ i / 8 < hg)))]) rfl ?_
                refine r_goto (tgt := 26) X eX6_give_108 (by decide) ?_
                refine r_fg 2 (L2 := [some (.ref (b + 77)), some (.int (nI (i + 1))), none]) rfl ?_
                exact ih3 (i + 1) (upd (upd A i ((if i % 8 < wd ∧ i / 8 < hg then gr i else 0))) (64 + i) ((if i % 8 < wd ∧ i / 8 < hg then mk i else 0))) w23 (by omega) (fun j hj => give_st hz (by omega) rfl rfl hj) ⟨by rw [upd_ne (by omega), upd_ne (by omega)]; exact ha.1, by rw [upd_ne (by omega), upd_ne (by omega)]; exact ha.2.1, by rw [upd_ne (by omega), upd_ne (by omega)]; exact ha.2.2⟩ m0_w23 n23_w23 m2_w23 m3_w23 m4_w23 m5_w23 m6_w23 m7_w23 m8_w23 m9_w23 m10_w23 fr_w23 (by omega)
              ·
                refine r_aload_n X eX6_give_94 rfl ?_
                refine gf_X6_26 X eX6_give_95 (by omega) m0_w21 ?_
                refine r_iload_n X eX6_give_98 rfl ?_
                refine r_iald X eX6_give_99 (by omega) m6_w21 (by omega) (by decide) ?_
                refine r_goto (tgt := 104) X eX6_give_100 (by decide) ?_
                refine r_top (y := if i % 8 < wd ∧ i / 8 < hg then mk i else 0) ((if_pos c_22).symm) ?_
                refine r_iast X eX6_give_104 (by omega) n21_w21 (by omega) (by decide) (fun w24 n24_w24 uu24 => ?_)
                have m0_w24 := (uu24 77 (by omega)).trans m0_w21
                have m2_w24 := (uu24 79 (by omega)).trans m2_w21
                have m3_w24 := (uu24 80 (by omega)).trans m3_w21
                have m4_w24 := (uu24 81 (by omega)).trans m4_w21
                have m5_w24 := (uu24 82 (by omega)).trans m5_w21
                have m6_w24 := (uu24 83 (by omega)).trans m6_w21
                have m7_w24 := (uu24 84 (by omega)).trans m7_w21
                have m8_w24 := (uu24 85 (by omega)).trans m8_w21
                have m9_w24 := (uu24 86 (by omega)).trans m9_w21
                have m10_w24 := (uu24 87 (by omega)).trans m10_w21
                have fr_w24 : ∀ j, (j < 77 ∨ 88 ≤ j) → w24 j = w j := fun j hj => (uu24 j (by omega)).trans (fr_w21 j hj)
                refine r_iinc X eX6_give_105 rfl (nI (i + 1)) (inc_nI _) (L2 := [some (.ref (b + 77)), some (.int (nI (i + 1))), some (.int (bI (i % 8 < wd ∧ i / 8 < hg)))]) rfl ?_
                refine r_goto (tgt := 26) X eX6_give_108 (by decide) ?_
                refine r_fg 2 (L2 := [some (.ref (b + 77)), some (.int (nI (i + 1))), none]) rfl ?_
                exact ih3 (i + 1) (upd (upd A i ((if i % 8 < wd ∧ i / 8 < hg then gr i else 0))) (64 + i) ((if i % 8 < wd ∧ i / 8 < hg then mk i else 0))) w24 (by omega) (fun j hj => give_st hz (by omega) rfl rfl hj) ⟨by rw [upd_ne (by omega), upd_ne (by omega)]; exact ha.1, by rw [upd_ne (by omega), upd_ne (by omega)]; exact ha.2.1, by rw [upd_ne (by omega), upd_ne (by omega)]; exact ha.2.2⟩ m0_w24 n24_w24 m2_w24 m3_w24 m4_w24 m5_w24 m6_w24 m7_w24 m8_w24 m9_w24 m10_w24 fr_w24 (by omega)
          ·
            refine r_iconst X eX6_give_54 (nI 1) (by decide) ?_
            refine r_goto (tgt := 59) X eX6_give_55 (by decide) ?_
            refine r_top (y := bI (i % 8 < wd ∧ i / 8 < hg)) (bI_t (by omega)) ?_
            refine r_istore_n X eX6_give_59 (Nat.le_of_ble_eq_true rfl) (L2 := [some (.ref (b + 77)), some (.int (nI i)), some (.int (bI (i % 8 < wd ∧ i / 8 < hg)))]) rfl ?_
            refine r_aload_n X eX6_give_60 rfl ?_
            refine gf_X6_7 X eX6_give_61 (by omega) m0_w3 ?_
            refine r_iconst X eX6_give_64 (nI 0) (by decide) ?_
            refine r_iload_n X eX6_give_65 rfl ?_
            refine r_iadd X eX6_give_66 (nI i) (addN (by omega)) ?_
            refine r_iload_n X eX6_give_67 rfl ?_
            refine r_ifeq_b (tgt := 80) X eX6_give_68 (by decide) (fun c_25 => ?_) (fun c_25 => ?_)
            ·
              refine r_iconst X eX6_give_80 ((0 : Int32)) (by decide) ?_
              refine r_top (y := if i % 8 < wd ∧ i / 8 < hg then gr i else 0) ((if_neg c_25).symm) ?_
              refine r_iast X eX6_give_81 (by omega) n2_w3 (by omega) (by decide) (fun w26 n26_w26 uu26 => ?_)
              have m0_w26 := (uu26 77 (by omega)).trans m0_w3
              have m2_w26 := (uu26 79 (by omega)).trans m2_w3
              have m3_w26 := (uu26 80 (by omega)).trans m3_w3
              have m4_w26 := (uu26 81 (by omega)).trans m4_w3
              have m5_w26 := (uu26 82 (by omega)).trans m5_w3
              have m6_w26 := (uu26 83 (by omega)).trans m6_w3
              have m7_w26 := (uu26 84 (by omega)).trans m7_w3
              have m8_w26 := (uu26 85 (by omega)).trans m8_w3
              have m9_w26 := (uu26 86 (by omega)).trans m9_w3
              have m10_w26 := (uu26 87 (by omega)).trans m10_w3
              have fr_w26 : ∀ j, (j < 77 ∨ 88 ≤ j) → w26 j = w j := fun j hj => (uu26 j (by omega)).trans (fr_w3 j hj)
              refine r_aload_n X eX6_give_82 rfl ?_
              refine gf_X6_7 X eX6_give_83 (by omega) m0_w26 ?_
              refine r_bipush X eX6_give_86 (nI 64) (by decide) ?_
              refine r_iload_n X eX6_give_88 rfl ?_
              refine r_iadd X eX6_give_89 (nI (64 + i)) (addN rfl) ?_
              refine r_iload_n X eX6_give_90 rfl ?_
              refine r_ifeq_b (tgt := 103) X eX6_give_91 (by decide) (fun c_27 => ?_) (fun c_27 => ?_)
              ·
                refine r_iconst X eX6_give_103 ((0 : Int32)) (by decide) ?_
                refine r_top (y := if i % 8 < wd ∧ i / 8 < hg then mk i else 0) ((if_neg c_27).symm) ?_
                refine r_iast X eX6_give_104 (by omega) n26_w26 (by omega) (by decide) (fun w28 n28_w28 uu28 => ?_)
                have m0_w28 := (uu28 77 (by omega)).trans m0_w26
                have m2_w28 := (uu28 79 (by omega)).trans m2_w26
                have m3_w28 := (uu28 80 (by omega)).trans m3_w26
                have m4_w28 := (uu28 81 (by omega)).trans m4_w26
                have m5_w28 := (uu28 82 (by omega)).trans m5_w26
                have m6_w28 := (uu28 83 (by omega)).trans m6_w26
                have m7_w28 := (uu28 84 (by omega)).trans m7_w26
                have m8_w28 := (uu28 85 (by omega)).trans m8_w26
                have m9_w28 := (uu28 86 (by omega)).trans m9_w26
                have m10_w28 := (uu28 87 (by omega)).trans m10_w26
                have fr_w28 : ∀ j, (j < 77 ∨ 88 ≤ j) → w28 j = w j := fun j hj => (uu28 j (by omega)).trans (fr_w26 j hj)
                refine r_iinc X eX6_give_105 rfl (nI (i + 1)) (inc_nI _) (L2 := [some (.ref (b + 77)), some (.int (nI (i + 1))), some (.int (bI (i % 8 < wd ∧ i / 8 < hg)))]) rfl ?_
                refine r_goto (tgt := 26) X eX6_give_108 (by decide) ?_
                refine r_fg 2 (L2 := [some (.ref (b + 77)), some (.int (nI (i + 1))), none]) rfl ?_
                exact ih3 (i + 1) (upd (upd A i ((if i % 8 < wd ∧ i / 8 < hg then gr i else 0))) (64 + i) ((if i % 8 < wd ∧ i / 8 < hg then mk i else 0))) w28 (by omega) (fun j hj => give_st hz (by omega) rfl rfl hj) ⟨by rw [upd_ne (by omega), upd_ne (by omega)]; exact ha.1, by rw [upd_ne (by omega), upd_ne (by omega)]; exact ha.2.1, by rw [upd_ne (by omega), upd_ne (by omega)]; exact ha.2.2⟩ m0_w28 n28_w28 m2_w28 m3_w28 m4_w28 m5_w28 m6_w28 m7_w28 m8_w28 m9_w28 m10_w28 fr_w28 (by omega)
              ·
                refine r_aload_n X eX6_give_94 rfl ?_
                refine gf_X6_26 X eX6_give_95 (by omega) m0_w26 ?_
                refine r_iload_n X eX6_give_98 rfl ?_
                refine r_iald X eX6_give_99 (by omega) m6_w26 (by omega) (by decide) ?_
                refine r_goto (tgt := 104) X eX6_give_100 (by decide) ?_
                refine r_top (y := if i % 8 < wd ∧ i / 8 < hg then mk i else 0) ((if_pos c_27).symm) ?_
                refine r_iast X eX6_give_104 (by omega) n26_w26 (by omega) (by decide) (fun w29 n29_w29 uu29 => ?_)
                have m0_w29 := (uu29 77 (by omega)).trans m0_w26
                have m2_w29 := (uu29 79 (by omega)).trans m2_w26
                have m3_w29 := (uu29 80 (by omega)).trans m3_w26
                have m4_w29 := (uu29 81 (by omega)).trans m4_w26
                have m5_w29 := (uu29 82 (by omega)).trans m5_w26
                have m6_w29 := (uu29 83 (by omega)).trans m6_w26
                have m7_w29 := (uu29 84 (by omega)).trans m7_w26
                have m8_w29 := (uu29 85 (by omega)).trans m8_w26
                have m9_w29 := (uu29 86 (by omega)).trans m9_w26
                have m10_w29 := (uu29 87 (by omega)).trans m10_w26
                have fr_w29 : ∀ j, (j < 77 ∨ 88 ≤ j) → w29 j = w j := fun j hj => (uu29 j (by omega)).trans (fr_w26 j hj)
                refine r_iinc X eX6_give_105 rfl (nI (i + 1)) (inc_nI _) (L2 := [some (.ref (b + 77)), some (.int (nI (i + 1))), some (.int (bI (i % 8 < wd ∧ i / 8 < hg)))]) rfl ?_
                refine r_goto (tgt := 26) X eX6_give_108 (by decide) ?_
                refine r_fg 2 (L2 := [some (.ref (b + 77)), some (.int (nI (i + 1))), none]) rfl ?_
                exact ih3 (i + 1) (upd (upd A i ((if i % 8 < wd ∧ i / 8 < hg then gr i else 0))) (64 + i) ((if i % 8 < wd ∧ i / 8 < hg then mk i else 0))) w29 (by omega) (fun j hj => give_st hz (by omega) rfl rfl hj) ⟨by rw [upd_ne (by omega), upd_ne (by omega)]; exact ha.1, by rw [upd_ne (by omega), upd_ne (by omega)]; exact ha.2.1, by rw [upd_ne (by omega), upd_ne (by omega)]; exact ha.2.2⟩ m0_w29 n29_w29 m2_w29 m3_w29 m4_w29 m5_w29 m6_w29 m7_w29 m8_w29 m9_w29 m10_w29 fr_w29 (by omega)
            ·
              refine r_aload_n X eX6_give_71 rfl ?_
              refine gf_X6_23 X eX6_give_72 (by omega) m0_w3 ?_
              refine r_iload_n X eX6_give_75 rfl ?_
              refine r_iald X eX6_give_76 (by omega) m5_w3 (by omega) (by decide) ?_
              refine r_goto (tgt := 81) X eX6_give_77 (by decide) ?_
              refine r_top (y := if i % 8 < wd ∧ i / 8 < hg then gr i else 0) ((if_pos c_25).symm) ?_
              refine r_iast X eX6_give_81 (by omega) n2_w3 (by omega) (by decide) (fun w30 n30_w30 uu30 => ?_)
              have m0_w30 := (uu30 77 (by omega)).trans m0_w3
              have m2_w30 := (uu30 79 (by omega)).trans m2_w3
              have m3_w30 := (uu30 80 (by omega)).trans m3_w3
              have m4_w30 := (uu30 81 (by omega)).trans m4_w3
              have m5_w30 := (uu30 82 (by omega)).trans m5_w3
              have m6_w30 := (uu30 83 (by omega)).trans m6_w3
              have m7_w30 := (uu30 84 (by omega)).trans m7_w3
              have m8_w30 := (uu30 85 (by omega)).trans m8_w3
              have m9_w30 := (uu30 86 (by omega)).trans m9_w3
              have m10_w30 := (uu30 87 (by omega)).trans m10_w3
              have fr_w30 : ∀ j, (j < 77 ∨ 88 ≤ j) → w30 j = w j := fun j hj => (uu30 j (by omega)).trans (fr_w3 j hj)
              refine r_aload_n X eX6_give_82 rfl ?_
              refine gf_X6_7 X eX6_give_83 (by omega) m0_w30 ?_
              refine r_bipush X eX6_give_86 (nI 64) (by decide) ?_
              refine r_iload_n X eX6_give_88 rfl ?_
              refine r_iadd X eX6_give_89 (nI (64 + i)) (addN rfl) ?_
              refine r_iload_n X eX6_give_90 rfl ?_
              refine r_ifeq_b (tgt := 103) X eX6_give_91 (by decide) (fun c_31 => ?_) (fun c_31 => ?_)
              ·
                refine r_iconst X eX6_give_103 ((0 : Int32)) (by decide) ?_
                refine r_top (y := if i % 8 < wd ∧ i / 8 < hg then mk i else 0) ((if_neg c_31).symm) ?_
                refine r_iast X eX6_give_104 (by omega) n30_w30 (by omega) (by decide) (fun w32 n32_w32 uu32 => ?_)
                have m0_w32 := (uu32 77 (by omega)).trans m0_w30
                have m2_w32 := (uu32 79 (by omega)).trans m2_w30
                have m3_w32 := (uu32 80 (by omega)).trans m3_w30
                have m4_w32 := (uu32 81 (by omega)).trans m4_w30
                have m5_w32 := (uu32 82 (by omega)).trans m5_w30
                have m6_w32 := (uu32 83 (by omega)).trans m6_w30
                have m7_w32 := (uu32 84 (by omega)).trans m7_w30
                have m8_w32 := (uu32 85 (by omega)).trans m8_w30
                have m9_w32 := (uu32 86 (by omega)).trans m9_w30
                have m10_w32 := (uu32 87 (by omega)).trans m10_w30
                have fr_w32 : ∀ j, (j < 77 ∨ 88 ≤ j) → w32 j = w j := fun j hj => (uu32 j (by omega)).trans (fr_w30 j hj)
                refine r_iinc X eX6_give_105 rfl (nI (i + 1)) (inc_nI _) (L2 := [some (.ref (b + 77)), some (.int (nI (i + 1))), some (.int (bI (i % 8 < wd ∧ i / 8 < hg)))]) rfl ?_
                refine r_goto (tgt := 26) X eX6_give_108 (by decide) ?_
                refine r_fg 2 (L2 := [some (.ref (b + 77)), some (.int (nI (i + 1))), none]) rfl ?_
                exact ih3 (i + 1) (upd (upd A i ((if i % 8 < wd ∧ i / 8 < hg then gr i else 0))) (64 + i) ((if i % 8 < wd ∧ i / 8 < hg then mk i else 0))) w32 (by omega) (fun j hj => give_st hz (by omega) rfl rfl hj) ⟨by rw [upd_ne (by omega), upd_ne (by omega)]; exact ha.1, by rw [upd_ne (by omega), upd_ne (by omega)]; exact ha.2.1, by rw [upd_ne (by omega), upd_ne (by omega)]; exact ha.2.2⟩ m0_w32 n32_w32 m2_w32 m3_w32 m4_w32 m5_w32 m6_w32 m7_w32 m8_w32 m9_w32 m10_w32 fr_w32 (by omega)
              ·
                refine r_aload_n X eX6_give_94 rfl ?_
                refine gf_X6_26 X eX6_give_95 (by omega) m0_w30 ?_
                refine r_iload_n X eX6_give_98 rfl ?_
                refine r_iald X eX6_give_99 (by omega) m6_w30 (by omega) (by decide) ?_
                refine r_goto (tgt := 104) X eX6_give_100 (by decide) ?_
                refine r_top (y := if i % 8 < wd ∧ i / 8 < hg then mk i else 0) ((if_pos c_31).symm) ?_
                refine r_iast X eX6_give_104 (by omega) n30_w30 (by omega) (by decide) (fun w33 n33_w33 uu33 => ?_)
                have m0_w33 := (uu33 77 (by omega)).trans m0_w30
                have m2_w33 := (uu33 79 (by omega)).trans m2_w30
                have m3_w33 := (uu33 80 (by omega)).trans m3_w30
                have m4_w33 := (uu33 81 (by omega)).trans m4_w30
                have m5_w33 := (uu33 82 (by omega)).trans m5_w30
                have m6_w33 := (uu33 83 (by omega)).trans m6_w30
                have m7_w33 := (uu33 84 (by omega)).trans m7_w30
                have m8_w33 := (uu33 85 (by omega)).trans m8_w30
                have m9_w33 := (uu33 86 (by omega)).trans m9_w30
                have m10_w33 := (uu33 87 (by omega)).trans m10_w30
                have fr_w33 : ∀ j, (j < 77 ∨ 88 ≤ j) → w33 j = w j := fun j hj => (uu33 j (by omega)).trans (fr_w30 j hj)
                refine r_iinc X eX6_give_105 rfl (nI (i + 1)) (inc_nI _) (L2 := [some (.ref (b + 77)), some (.int (nI (i + 1))), some (.int (bI (i % 8 < wd ∧ i / 8 < hg)))]) rfl ?_
                refine r_goto (tgt := 26) X eX6_give_108 (by decide) ?_
                refine r_fg 2 (L2 := [some (.ref (b + 77)), some (.int (nI (i + 1))), none]) rfl ?_
                exact ih3 (i + 1) (upd (upd A i ((if i % 8 < wd ∧ i / 8 < hg then gr i else 0))) (64 + i) ((if i % 8 < wd ∧ i / 8 < hg then mk i else 0))) w33 (by omega) (fun j hj => give_st hz (by omega) rfl rfl hj) ⟨by rw [upd_ne (by omega), upd_ne (by omega)]; exact ha.1, by rw [upd_ne (by omega), upd_ne (by omega)]; exact ha.2.1, by rw [upd_ne (by omega), upd_ne (by omega)]; exact ha.2.2⟩ m0_w33 n33_w33 m2_w33 m3_w33 m4_w33 m5_w33 m6_w33 m7_w33 m8_w33 m9_w33 m10_w33 fr_w33 (by omega)
  exact lp3 _ 0 (upd (upd st 128 (nI wd)) 129 (nI hg)) w2 (by omega) (fun j hj => absurd hj (by omega)) ⟨by rw [upd_ne (by omega), upd_self], by rw [upd_self], by rw [upd_ne (by omega), upd_ne (by omega)]⟩ m0_w2 n2_w2 m2_w2 m3_w2 m4_w2 m5_w2 m6_w2 m7_w2 m8_w2 m9_w2 m10_w2 fr_w2 (Nat.lt_succ_self _)
