theorem ht_1 {s : Nat → Nat} {i nb l : Nat} (h : ∀ l, l < i → s l < nb) (h2 : s i < nb) (hl : l < i + 1) : s l < nb := by
  rcases (show l < i ∨ l = i by omega) with q | rfl
  · exact h l q
  · exact h2
theorem ht_2 {s : Nat → Nat} {i l : Nat} (h : ∀ l, l + 1 < i → s (l + 1) ≤ s l + 1 ∧ s l ≤ s (l + 1) + 1) (h2 : 0 < i → s i ≤ s (i - 1) + 1 ∧ s (i - 1) ≤ s i + 1) (hl : l + 1 < i + 1) : s (l + 1) ≤ s l + 1 ∧ s l ≤ s (l + 1) + 1 := by
  rcases (show l + 1 < i ∨ i = l + 1 by omega) with q | rfl
  · exact h l q
  · exact h2 (by omega)
set_option maxHeartbeats 4000000 in
set_option maxRecDepth 100000 in
theorem c_X4_findLeast (l : Launch) (G : Gs) (b N : Nat) (w : Wd) (ks : Nat) (hks : ks + 4 ≤ N) (way0 : Nat) (tot : Int32) (pl ce go : Nat → Int32) (hs : isSm G b w ks way0 tot pl ce go) (k : Nat) (hk : k + 3 ≤ N) (hdj : ks + 4 ≤ k ∨ k + 3 ≤ ks) (wd hg lw : Nat) (ga ma : Nat → Int32) (hp : isPic G b w k wd hg lw ga ma) (way : Nat) (hw : way < 2) : CV l yX4_findLeast cX4_findLeast 7 4 G b N w [.ref (b + ks), .ref (b + k), .int (nI way)] (fun w2 => ∃ pl2 ce2 go2, isSm G b w2 ks way (toS (coS lw (br way wd hg) (li way wd hg) (vg way ga) (vg way ma)) (br way wd hg) (li way wd hg)) pl2 ce2 go2 ∧ okP pl2 (sS (coS lw (br way wd hg) (li way wd hg) (vg way ga) (vg way ma)) (br way wd hg) (li way wd hg)) (li way wd hg) (br way wd hg) ∧ ∀ j, (j < ks ∨ ks + 4 ≤ j) → w2 j = w j) := by
  obtain ⟨f0, f1, f2, f3⟩ := hs
  obtain ⟨e0, e1, e2, q1, q2, q3, q4, q5⟩ := hp
  have hbr := br_or way wd hg
  have hli := li_or way wd hg
  refine CV_of (L0 := [some (.ref (b + ks)), some (.ref (b + k)), some (.int (nI way)), none, none, none, none]) (by decide) rfl (by simp [Value.category]) rfl (Nat.le_of_ble_eq_true rfl) (fun κ X ret => ?_)
  have fr_w : ∀ j, (j < ks ∨ ks + 4 ≤ j) → w j = w j := fun _ _ => rfl
  refine r_aload_n X eX4_findLeast_0 rfl ?_
  refine r_iload_n X eX4_findLeast_1 rfl ?_
  refine pf_X4_21 X eX4_findLeast_2 (by omega) f0 (fun w1 n1_w1 uu1 => ?_)
  have f1_w1 := (uu1 (ks + 1) (by omega)).trans f1
  have f2_w1 := (uu1 (ks + 2) (by omega)).trans f2
  have f3_w1 := (uu1 (ks + 3) (by omega)).trans f3
  have e0_w1 := (uu1 k (by omega)).trans e0
  have e1_w1 := (uu1 (k + 1) (by omega)).trans e1
  have e2_w1 := (uu1 (k + 2) (by omega)).trans e2
  have fr_w1 : ∀ j, (j < ks ∨ ks + 4 ≤ j) → w1 j = w j := fun j hj => (uu1 j (by omega)).trans (fr_w j hj)
  refine r_aload_n X eX4_findLeast_5 rfl ?_
  refine r_aload_n X eX4_findLeast_6 rfl ?_
  refine gf_X4_21 X eX4_findLeast_7 (by omega) n1_w1 ?_
  refine cp_X4_25 X eX4_findLeast_10 (c_X3_lines _ G b N w1 k hk wd hg lw ga ma ⟨e0_w1, e1_w1, e2_w1, q1, q2, q3, q4, q5⟩ way (by omega)) (by decide) (by omega) e0_w1 rfl (Nat.le_of_ble_eq_true rfl) ?_
  refine r_istore_n X eX4_findLeast_13 (Nat.le_of_ble_eq_true rfl) (L2 := [some (.ref (b + ks)), some (.ref (b + k)), some (.int (nI way)), some (.int (nI (li way wd hg))), none, none, none]) rfl ?_
  refine r_aload_n X eX4_findLeast_14 rfl ?_
  refine r_aload_n X eX4_findLeast_15 rfl ?_
  refine gf_X4_21 X eX4_findLeast_16 (by omega) n1_w1 ?_
  refine cp_X4_31 X eX4_findLeast_19 (c_X3_breadth _ G b N w1 k hk wd hg lw ga ma ⟨e0_w1, e1_w1, e2_w1, q1, q2, q3, q4, q5⟩ way (by omega)) (by decide) (by omega) e0_w1 rfl (Nat.le_of_ble_eq_true rfl) ?_
  refine r_istore X eX4_findLeast_22 (Nat.le_of_ble_eq_true rfl) (L2 := [some (.ref (b + ks)), some (.ref (b + k)), some (.int (nI way)), some (.int (nI (li way wd hg))), some (.int (nI (br way wd hg))), none, none]) rfl ?_
  refine r_iload_n X eX4_findLeast_24 rfl ?_
  refine r_iconst X eX4_findLeast_25 (nI 1) (by decide) ?_
  refine r_isub X eX4_findLeast_26 (nP (li way wd hg)) (subP _) ?_
  refine r_istore X eX4_findLeast_27 (Nat.le_of_ble_eq_true rfl) (L2 := [some (.ref (b + ks)), some (.ref (b + k)), some (.int (nI way)), some (.int (nI (li way wd hg))), some (.int (nI (br way wd hg))), some (.int (nP (li way wd hg))), none]) rfl ?_
  have lp2 : ∀ (fu : Nat) (t : Nat) (ce2 go2 : Nat → Int32) (w2 : Wd), (t ≤ li way wd hg) → (FL lw (br way wd hg) (li way wd hg) (vg way ga) (vg way ma) t 0 ce2 go2) → (w2 ks = .inr (4, [.int (nI way), .int tot, .ref (b + (ks + 1)), .ref (b + (ks + 2)), .ref (b + (ks + 3))])) → (w2 (ks + 1) = aI G 8 pl) → (w2 (ks + 2) = aI G 64 ce2) → (w2 (ks + 3) = aI G 64 go2) → (w2 k = .inr (3, [.int (nI wd), .int (nI hg), .int (nI lw), .ref (b + (k + 1)), .ref (b + (k + 2))])) → (w2 (k + 1) = aI G 64 ga) → (w2 (k + 2) = aI G 64 ma) → (∀ j, (j < ks ∨ ks + 4 ≤ j) → w2 j = w j) → t < fu → V κ G b (N, 0, 0) w2 29 [some (.ref (b + ks)), some (.ref (b + k)), some (.int (nI way)), some (.int (nI (li way wd hg))), some (.int (nI (br way wd hg))), some (.int (nP t)), none] [] := by
    intro fu
    induction fu with
    | zero => intro t ce2 go2 w2 ht hF n1_w2 f1_w2 f2_w2 f3_w2 e0_w2 e1_w2 e2_w2 fr_w2 hm; exact absurd hm (Nat.not_lt_zero _)
    | succ fu ih2 =>
      intro t ce2 go2 w2 ht hF n1_w2 f1_w2 f2_w2 f3_w2 e0_w2 e1_w2 e2_w2 fr_w2 hm
      refine r_iload X eX4_findLeast_29 rfl ?_
      refine r_if_lt (tgt := 78) X eX4_findLeast_31 (by decide) (nP_toInt (by omega)) (fun c_3 => ?_) (fun c_3 => ?_)
      ·
        have hce : ∀ j, j < br way wd hg → ce2 j = coS lw (br way wd hg) (li way wd hg) (vg way ga) (vg way ma) 0 j j + Rs (coS lw (br way wd hg) (li way wd hg) (vg way ga) (vg way ma)) (br way wd hg) (li way wd hg) (li way wd hg - 1) j := fun j hj => by have hh := (hF 0 j (by omega) (by omega) (by omega)).1; rw [co_self]; simpa using hh
        refine r_aload_n X eX4_findLeast_78 rfl ?_
        refine r_iload X eX4_findLeast_79 rfl ?_
        refine cp_X4_38 X eX4_findLeast_81 (c_X4_leastStart _ G b N w2 ks hks way tot pl ce2 go2 ⟨n1_w2, f1_w2, f2_w2, f3_w2⟩ (br way wd hg) (by omega) (by omega)) (by decide) (by omega) n1_w2 rfl (Nat.le_of_ble_eq_true rfl) ?_
        refine r_top (y := nI (sS (coS lw (br way wd hg) (li way wd hg) (vg way ga) (vg way ma)) (br way wd hg) (li way wd hg) 0)) (congrArg nI (am_congr (fun j _ hj => hce j (by omega)))) ?_
        refine r_istore X eX4_findLeast_84 (Nat.le_of_ble_eq_true rfl) (L2 := [some (.ref (b + ks)), some (.ref (b + k)), some (.int (nI way)), some (.int (nI (li way wd hg))), some (.int (nI (br way wd hg))), some (.int (nI (sS (coS lw (br way wd hg) (li way wd hg) (vg way ga) (vg way ma)) (br way wd hg) (li way wd hg) 0))), none]) rfl ?_
        refine r_aload_n X eX4_findLeast_86 rfl ?_
        refine r_aload_n X eX4_findLeast_87 rfl ?_
        refine gf_X4_15 X eX4_findLeast_88 (by omega) n1_w2 ?_
        refine r_iload X eX4_findLeast_91 rfl ?_
        refine r_iald X eX4_findLeast_93 (by omega) f2_w2 (by have hz0 := sS_lt (c := coS lw (br way wd hg) (li way wd hg) (vg way ga) (vg way ma)) (nb := br way wd hg) (nl := li way wd hg) (by omega) 0; omega) (by decide) ?_
        refine r_top (y := toS (coS lw (br way wd hg) (li way wd hg) (vg way ga) (vg way ma)) (br way wd hg) (li way wd hg)) (hce _ (sS_lt (by omega) 0)) ?_
        refine pf_X4_41 X eX4_findLeast_94 (by omega) n1_w2 (fun w4 n4_w4 uu4 => ?_)
        have f1_w4 := (uu4 (ks + 1) (by omega)).trans f1_w2
        have f2_w4 := (uu4 (ks + 2) (by omega)).trans f2_w2
        have f3_w4 := (uu4 (ks + 3) (by omega)).trans f3_w2
        have e0_w4 := (uu4 k (by omega)).trans e0_w2
        have e1_w4 := (uu4 (k + 1) (by omega)).trans e1_w2
        have e2_w4 := (uu4 (k + 2) (by omega)).trans e2_w2
        have fr_w4 : ∀ j, (j < ks ∨ ks + 4 ≤ j) → w4 j = w j := fun j hj => (uu4 j (by omega)).trans (fr_w2 j hj)
        refine r_iconst X eX4_findLeast_97 (nI 0) (by decide) ?_
        refine r_istore X eX4_findLeast_98 (Nat.le_of_ble_eq_true rfl) (L2 := [some (.ref (b + ks)), some (.ref (b + k)), some (.int (nI way)), some (.int (nI (li way wd hg))), some (.int (nI (br way wd hg))), some (.int (nI (sS (coS lw (br way wd hg) (li way wd hg) (vg way ga) (vg way ma)) (br way wd hg) (li way wd hg) 0))), some (.int (nI 0))]) rfl ?_
        have lp5 : ∀ (fu : Nat) (u : Nat) (pl2 : Nat → Int32) (w5 : Wd), (u ≤ li way wd hg) → (∀ j, j < u → pl2 j = nI (sS (coS lw (br way wd hg) (li way wd hg) (vg way ga) (vg way ma)) (br way wd hg) (li way wd hg) j)) → (w5 ks = .inr (4, [.int (nI way), .int (toS (coS lw (br way wd hg) (li way wd hg) (vg way ga) (vg way ma)) (br way wd hg) (li way wd hg)), .ref (b + (ks + 1)), .ref (b + (ks + 2)), .ref (b + (ks + 3))])) → (w5 (ks + 1) = aI G 8 pl2) → (w5 (ks + 2) = aI G 64 ce2) → (w5 (ks + 3) = aI G 64 go2) → (w5 k = .inr (3, [.int (nI wd), .int (nI hg), .int (nI lw), .ref (b + (k + 1)), .ref (b + (k + 2))])) → (w5 (k + 1) = aI G 64 ga) → (w5 (k + 2) = aI G 64 ma) → (∀ j, (j < ks ∨ ks + 4 ≤ j) → w5 j = w j) → li way wd hg - u < fu → V κ G b (N, 0, 0) w5 100 [some (.ref (b + ks)), some (.ref (b + k)), some (.int (nI way)), some (.int (nI (li way wd hg))), some (.int (nI (br way wd hg))), some (.int (nI (sS (coS lw (br way wd hg) (li way wd hg) (vg way ga) (vg way ma)) (br way wd hg) (li way wd hg) u))), some (.int (nI u))] [] := by
          intro fu
          induction fu with
          | zero => intro u pl2 w5 hu hz n4_w5 f1_w5 f2_w5 f3_w5 e0_w5 e1_w5 e2_w5 fr_w5 hm; exact absurd hm (Nat.not_lt_zero _)
          | succ fu ih5 =>
            intro u pl2 w5 hu hz n4_w5 f1_w5 f2_w5 f3_w5 e0_w5 e1_w5 e2_w5 fr_w5 hm
            refine r_iload X eX4_findLeast_100 rfl ?_
            refine r_iload_n X eX4_findLeast_102 rfl ?_
            refine r_icmp_ge (tgt := 136) X eX4_findLeast_103 (by decide) (nI_toInt (by omega)) (nI_toInt (by omega)) (fun c_6 => ?_) (fun c_6 => ?_)
            ·
              exact ret _ _ _ _ eX4_findLeast_136 (⟨pl2, ce2, go2, ⟨n4_w5, f1_w5, f2_w5, f3_w5⟩, fun j hj => ⟨hz j (by omega), sS_lt (by omega) j⟩, fr_w5⟩)
            ·
              have hsu := sS_lt (c := coS lw (br way wd hg) (li way wd hg) (vg way ga) (vg way ma)) (nb := br way wd hg) (nl := li way wd hg) (by omega) u
              refine r_aload_n X eX4_findLeast_106 rfl ?_
              refine gf_X4_9 X eX4_findLeast_107 (by omega) n4_w5 ?_
              refine r_iload X eX4_findLeast_110 rfl ?_
              refine r_iload X eX4_findLeast_112 rfl ?_
              refine r_iast X eX4_findLeast_114 (by omega) f1_w5 (by omega) (by decide) (fun w7 n7_w7 uu7 => ?_)
              have n4_w7 := (uu7 ks (by omega)).trans n4_w5
              have f2_w7 := (uu7 (ks + 2) (by omega)).trans f2_w5
              have f3_w7 := (uu7 (ks + 3) (by omega)).trans f3_w5
              have e0_w7 := (uu7 k (by omega)).trans e0_w5
              have e1_w7 := (uu7 (k + 1) (by omega)).trans e1_w5
              have e2_w7 := (uu7 (k + 2) (by omega)).trans e2_w5
              have fr_w7 : ∀ j, (j < ks ∨ ks + 4 ≤ j) → w7 j = w j := fun j hj => (uu7 j (by omega)).trans (fr_w5 j hj)
              refine r_aload_n X eX4_findLeast_115 rfl ?_
              refine gf_X4_18 X eX4_findLeast_116 (by omega) n4_w7 ?_
              refine r_iload X eX4_findLeast_119 rfl ?_
              refine r_bipush X eX4_findLeast_121 (nI 8) (by decide) ?_
              refine r_imul X eX4_findLeast_123 (nI (u * 8)) (pk_mul _ _) ?_
              refine r_iload X eX4_findLeast_124 rfl ?_
              refine r_iadd X eX4_findLeast_126 (nI (u * 8 + sS (coS lw (br way wd hg) (li way wd hg) (vg way ga) (vg way ma)) (br way wd hg) (li way wd hg) u)) (addN rfl) ?_
              refine r_iald X eX4_findLeast_127 (by omega) f3_w7 (by omega) (by decide) ?_
              refine r_top (y := nI (sS (coS lw (br way wd hg) (li way wd hg) (vg way ga) (vg way ma)) (br way wd hg) (li way wd hg) (u + 1))) (hF u _ (by omega) hsu (by omega)).2 ?_
              refine r_istore X eX4_findLeast_128 (Nat.le_of_ble_eq_true rfl) (L2 := [some (.ref (b + ks)), some (.ref (b + k)), some (.int (nI way)), some (.int (nI (li way wd hg))), some (.int (nI (br way wd hg))), some (.int (nI (sS (coS lw (br way wd hg) (li way wd hg) (vg way ga) (vg way ma)) (br way wd hg) (li way wd hg) (u + 1)))), some (.int (nI u))]) rfl ?_
              refine r_iinc X eX4_findLeast_130 rfl (nI (u + 1)) (inc_nI _) (L2 := [some (.ref (b + ks)), some (.ref (b + k)), some (.int (nI way)), some (.int (nI (li way wd hg))), some (.int (nI (br way wd hg))), some (.int (nI (sS (coS lw (br way wd hg) (li way wd hg) (vg way ga) (vg way ma)) (br way wd hg) (li way wd hg) (u + 1)))), some (.int (nI (u + 1)))]) rfl ?_
              refine r_goto (tgt := 100) X eX4_findLeast_133 (by decide) ?_
              exact ih5 (u + 1) (upd pl2 u (nI (sS (coS lw (br way wd hg) (li way wd hg) (vg way ga) (vg way ma)) (br way wd hg) (li way wd hg) u))) w7 (by omega) (fun j hj => upd_nx hz hj) n4_w7 n7_w7 f2_w7 f3_w7 e0_w7 e1_w7 e2_w7 fr_w7 (by omega)
        exact lp5 _ 0 pl w4 (by omega) (fun j hj => absurd hj (by omega)) n4_w4 f1_w4 f2_w4 f3_w4 e0_w4 e1_w4 e2_w4 fr_w4 (Nat.lt_succ_self _)
      ·
        rw [nP_pos (show 0 < t by omega)]
        refine r_iconst X eX4_findLeast_34 (nI 0) (by decide) ?_
        refine r_istore X eX4_findLeast_35 (Nat.le_of_ble_eq_true rfl) (L2 := [some (.ref (b + ks)), some (.ref (b + k)), some (.int (nI way)), some (.int (nI (li way wd hg))), some (.int (nI (br way wd hg))), some (.int (nI (t - 1))), some (.int (nI 0))]) rfl ?_
        have lp8 : ∀ (fu : Nat) (p : Nat) (ce3 go3 : Nat → Int32) (w8 : Wd), (p ≤ br way wd hg) → (FL lw (br way wd hg) (li way wd hg) (vg way ga) (vg way ma) t p ce3 go3) → (w8 ks = .inr (4, [.int (nI way), .int tot, .ref (b + (ks + 1)), .ref (b + (ks + 2)), .ref (b + (ks + 3))])) → (w8 (ks + 1) = aI G 8 pl) → (w8 (ks + 2) = aI G 64 ce3) → (w8 (ks + 3) = aI G 64 go3) → (w8 k = .inr (3, [.int (nI wd), .int (nI hg), .int (nI lw), .ref (b + (k + 1)), .ref (b + (k + 2))])) → (w8 (k + 1) = aI G 64 ga) → (w8 (k + 2) = aI G 64 ma) → (∀ j, (j < ks ∨ ks + 4 ≤ j) → w8 j = w j) → br way wd hg - p < fu → V κ G b (N, 0, 0) w8 37 [some (.ref (b + ks)), some (.ref (b + k)), some (.int (nI way)), some (.int (nI (li way wd hg))), some (.int (nI (br way wd hg))), some (.int (nI (t - 1))), some (.int (nI p))] [] := by
          intro fu
          induction fu with
          | zero => intro p ce3 go3 w8 hp1 hF3 n1_w8 f1_w8 f2_w8 f3_w8 e0_w8 e1_w8 e2_w8 fr_w8 hm; exact absurd hm (Nat.not_lt_zero _)
          | succ fu ih8 =>
            intro p ce3 go3 w8 hp1 hF3 n1_w8 f1_w8 f2_w8 f3_w8 e0_w8 e1_w8 e2_w8 fr_w8 hm
            refine r_iload X eX4_findLeast_37 rfl ?_
            refine r_iload X eX4_findLeast_39 rfl ?_
            refine r_icmp_ge (tgt := 72) X eX4_findLeast_41 (by decide) (nI_toInt (by omega)) (nI_toInt (by omega)) (fun c_9 => ?_) (fun c_9 => ?_)
            ·
              refine r_iinc X eX4_findLeast_72 rfl (nP (t - 1)) (dec_nI _) (L2 := [some (.ref (b + ks)), some (.ref (b + k)), some (.int (nI way)), some (.int (nI (li way wd hg))), some (.int (nI (br way wd hg))), some (.int (nP (t - 1))), some (.int (nI p))]) rfl ?_
              refine r_goto (tgt := 29) X eX4_findLeast_75 (by decide) ?_
              refine r_fg 6 (L2 := [some (.ref (b + ks)), some (.ref (b + k)), some (.int (nI way)), some (.int (nI (li way wd hg))), some (.int (nI (br way wd hg))), some (.int (nP (t - 1))), none]) rfl ?_
              exact ih2 (t - 1) ce3 go3 w8 (by omega) (FL_out (by omega) hF3) n1_w8 f1_w8 f2_w8 f3_w8 e0_w8 e1_w8 e2_w8 fr_w8 (by omega)
            ·
              refine r_aload_n X eX4_findLeast_44 rfl ?_
              refine r_aload_n X eX4_findLeast_45 rfl ?_
              refine r_iload X eX4_findLeast_46 rfl ?_
              refine r_iload X eX4_findLeast_48 rfl ?_
              refine r_iload X eX4_findLeast_50 rfl ?_
              refine r_iload_n X eX4_findLeast_52 rfl ?_
              refine r_iconst X eX4_findLeast_53 (nI 1) (by decide) ?_
              refine r_isub X eX4_findLeast_54 (nI ((li way wd hg) - 1)) (pk_sub (by omega)) ?_
              refine r_icmp_ne (tgt := 62) X eX4_findLeast_55 (by decide) (nI_toInt (by omega)) (nI_toInt (by omega)) (fun c_10 => ?_) (fun c_10 => ?_)
              ·
                refine r_iconst X eX4_findLeast_62 (nI 0) (by decide) ?_
                refine r_top (y := bI (t - 1 + 1 = li way wd hg)) (bI_f (by omega)) ?_
                refine cv_X4_34 X eX4_findLeast_63 (c_X4_weighDot _ G b N w8 ks hks way tot pl ce3 go3 ⟨n1_w8, f1_w8, f2_w8, f3_w8⟩ k hk hdj wd hg lw ga ma ⟨e0_w8, e1_w8, e2_w8, q1, q2, q3, q4, q5⟩ hw (t - 1) p (by omega) (by omega) (fun hh q hq => by rw [show t - 1 + 1 = t by omega, show li way wd hg - 2 - (t - 1) = li way wd hg - 1 - t by omega]; exact (hF3 t q (by omega) hq (Or.inl (Nat.le_refl t))).1)) (by decide) (by omega) n1_w8 rfl (Nat.le_of_ble_eq_true rfl) (fun w11 hp11 => ?_)
                obtain ⟨ce4, go4, ⟨x0_11, x1_11, x2_11, x3_11⟩, y1, y2, y3, g11⟩ := hp11
                have e0_w11 := (g11 k (by omega)).trans e0_w8
                have e1_w11 := (g11 (k + 1) (by omega)).trans e1_w8
                have e2_w11 := (g11 (k + 2) (by omega)).trans e2_w8
                have m12_w11 : w11 ks = .inr (4, [.int (nI way), .int tot, .ref (b + (ks + 1)), .ref (b + (ks + 2)), .ref (b + (ks + 3))]) := x0_11
                have m13_w11 : w11 (ks + 1) = aI G 8 pl := x1_11
                have m14_w11 : w11 (ks + 2) = aI G 64 ce4 := x2_11
                have m15_w11 : w11 (ks + 3) = aI G 64 go4 := x3_11
                have fr_w11 : ∀ j, (j < ks ∨ ks + 4 ≤ j) → w11 j = w j := fun j hj => (g11 j (by omega)).trans (fr_w8 j hj)
                refine r_iinc X eX4_findLeast_66 rfl (nI (p + 1)) (inc_nI _) (L2 := [some (.ref (b + ks)), some (.ref (b + k)), some (.int (nI way)), some (.int (nI (li way wd hg))), some (.int (nI (br way wd hg))), some (.int (nI (t - 1))), some (.int (nI (p + 1)))]) rfl ?_
                refine r_goto (tgt := 37) X eX4_findLeast_69 (by decide) ?_
                exact ih8 (p + 1) ce4 go4 w11 (by omega) (FL_st (by omega) (by omega) (by omega) (by omega) (by omega) hF3 y1 y2 y3) m12_w11 m13_w11 m14_w11 m15_w11 e0_w11 e1_w11 e2_w11 fr_w11 (by omega)
              ·
                refine r_iconst X eX4_findLeast_58 (nI 1) (by decide) ?_
                refine r_goto (tgt := 63) X eX4_findLeast_59 (by decide) ?_
                refine r_top (y := bI (t - 1 + 1 = li way wd hg)) (bI_t (by omega)) ?_
                refine cv_X4_34 X eX4_findLeast_63 (c_X4_weighDot _ G b N w8 ks hks way tot pl ce3 go3 ⟨n1_w8, f1_w8, f2_w8, f3_w8⟩ k hk hdj wd hg lw ga ma ⟨e0_w8, e1_w8, e2_w8, q1, q2, q3, q4, q5⟩ hw (t - 1) p (by omega) (by omega) (fun hh q hq => by rw [show t - 1 + 1 = t by omega, show li way wd hg - 2 - (t - 1) = li way wd hg - 1 - t by omega]; exact (hF3 t q (by omega) hq (Or.inl (Nat.le_refl t))).1)) (by decide) (by omega) n1_w8 rfl (Nat.le_of_ble_eq_true rfl) (fun w16 hp16 => ?_)
                obtain ⟨ce4, go4, ⟨x0_16, x1_16, x2_16, x3_16⟩, y1, y2, y3, g16⟩ := hp16
                have e0_w16 := (g16 k (by omega)).trans e0_w8
                have e1_w16 := (g16 (k + 1) (by omega)).trans e1_w8
                have e2_w16 := (g16 (k + 2) (by omega)).trans e2_w8
                have m17_w16 : w16 ks = .inr (4, [.int (nI way), .int tot, .ref (b + (ks + 1)), .ref (b + (ks + 2)), .ref (b + (ks + 3))]) := x0_16
                have m18_w16 : w16 (ks + 1) = aI G 8 pl := x1_16
                have m19_w16 : w16 (ks + 2) = aI G 64 ce4 := x2_16
                have m20_w16 : w16 (ks + 3) = aI G 64 go4 := x3_16
                have fr_w16 : ∀ j, (j < ks ∨ ks + 4 ≤ j) → w16 j = w j := fun j hj => (g16 j (by omega)).trans (fr_w8 j hj)
                refine r_iinc X eX4_findLeast_66 rfl (nI (p + 1)) (inc_nI _) (L2 := [some (.ref (b + ks)), some (.ref (b + k)), some (.int (nI way)), some (.int (nI (li way wd hg))), some (.int (nI (br way wd hg))), some (.int (nI (t - 1))), some (.int (nI (p + 1)))]) rfl ?_
                refine r_goto (tgt := 37) X eX4_findLeast_69 (by decide) ?_
                exact ih8 (p + 1) ce4 go4 w16 (by omega) (FL_st (by omega) (by omega) (by omega) (by omega) (by omega) hF3 y1 y2 y3) m17_w16 m18_w16 m19_w16 m20_w16 e0_w16 e1_w16 e2_w16 fr_w16 (by omega)
        exact lp8 _ 0 ce2 go2 w2 (by omega) hF n1_w2 f1_w2 f2_w2 f3_w2 e0_w2 e1_w2 e2_w2 fr_w2 (Nat.lt_succ_self _)
  exact lp2 _ (li way wd hg) ce go w1 (Nat.le_refl _) (fun l q h1 h2 c => absurd c (by omega)) n1_w1 f1_w1 f2_w1 f3_w1 e0_w1 e1_w1 e2_w1 fr_w1 (Nat.lt_succ_self _)
set_option maxHeartbeats 4000000 in
set_option maxRecDepth 100000 in
theorem c_X4_hangsTogether (l : Launch) (G : Gs) (b N : Nat) (w : Wd) (ks : Nat) (hks : ks + 4 ≤ N) (way : Nat) (tot : Int32) (pl ce go : Nat → Int32) (hs : isSm G b w ks way tot pl ce go) (nl nb : Nat) (hnl : nl ≤ 8) (hnb : nb ≤ 8) (s : Nat → Nat) (hs10 : ∀ l, l < nl → pl l = nI (s l) ∧ s l < 10) : CI l yX4_hangsTogether cX4_hangsTogether 4 (some .boolean) 1 G b N w [.ref (b + ks), .int (nI nl), .int (nI nb)] (fun r w2 => r = bI (okD s nl nb) ∧ w2 = w) := by
  obtain ⟨f0, f1, f2, f3⟩ := hs
  refine CZ_of (L0 := [some (.ref (b + ks)), some (.int (nI nl)), some (.int (nI nb)), none]) (by decide) rfl (by simp [Value.category]) rfl (Nat.le_of_ble_eq_true rfl) rfl (fun κ X ret => ?_)
  refine r_iconst X eX4_hangsTogether_0 (nI 0) (by decide) ?_
  refine r_istore_n X eX4_hangsTogether_1 (Nat.le_of_ble_eq_true rfl) (L2 := [some (.ref (b + ks)), some (.int (nI nl)), some (.int (nI nb)), some (.int (nI 0))]) rfl ?_
  have lp1 : ∀ (fu : Nat) (i : Nat), (i ≤ nl) → (∀ l, l < i → s l < nb) → (∀ l, l + 1 < i → s (l + 1) ≤ s l + 1 ∧ s l ≤ s (l + 1) + 1) → nl - i < fu → V κ G b (N, 0, 0) w 2 [some (.ref (b + ks)), some (.int (nI nl)), some (.int (nI nb)), some (.int (nI i))] [] := by
    intro fu
    induction fu with
    | zero => intro i hi h1 h2 hm; exact absurd hm (Nat.not_lt_zero _)
    | succ fu ih1 =>
      intro i hi h1 h2 hm
      refine r_iload_n X eX4_hangsTogether_2 rfl ?_
      refine r_iload_n X eX4_hangsTogether_3 rfl ?_
      refine r_icmp_ge (tgt := 53) X eX4_hangsTogether_4 (by decide) (nI_toInt (by omega)) (nI_toInt (by omega)) (fun c_2 => ?_) (fun c_2 => ?_)
      ·
        refine r_iconst X eX4_hangsTogether_53 (nI 1) (by decide) ?_
        exact ret _ _ _ _ _ eX4_hangsTogether_54 (Or.inr rfl) (⟨bI_t ⟨fun l hl => h1 l (by omega), fun l hl => h2 l (by omega)⟩, rfl⟩)
      ·
        have hsi := (hs10 i (by omega)).2
        refine r_aload_n X eX4_hangsTogether_7 rfl ?_
        refine gf_X4_9 X eX4_hangsTogether_8 (by omega) f0 ?_
        refine r_iload_n X eX4_hangsTogether_11 rfl ?_
        refine r_iald X eX4_hangsTogether_12 (by omega) f1 (by omega) (by decide) ?_
        refine r_top (y := nI (s i)) (hs10 i (by omega)).1 ?_
        refine r_iload_n X eX4_hangsTogether_13 rfl ?_
        refine r_icmp_lt (tgt := 19) X eX4_hangsTogether_14 (by decide) (nI_toInt (by omega)) (nI_toInt (by omega)) (fun c_3 => ?_) (fun c_3 => ?_)
        ·
          refine r_iload_n X eX4_hangsTogether_19 rfl ?_
          refine r_if_le (tgt := 47) X eX4_hangsTogether_20 (by decide) (nI_toInt (by omega)) (fun c_4 => ?_) (fun c_4 => ?_)
          ·
            refine r_iinc X eX4_hangsTogether_47 rfl (nI (i + 1)) (inc_nI _) (L2 := [some (.ref (b + ks)), some (.int (nI nl)), some (.int (nI nb)), some (.int (nI (i + 1)))]) rfl ?_
            refine r_goto (tgt := 2) X eX4_hangsTogether_50 (by decide) ?_
            exact ih1 (i + 1)  (by omega) (fun l hl => ht_1 h1 (by omega) hl) (fun l hl => ht_2 h2 (fun h0 => by omega) hl)  (by omega)
          ·
            refine r_aload_n X eX4_hangsTogether_23 rfl ?_
            refine gf_X4_9 X eX4_hangsTogether_24 (by omega) f0 ?_
            refine r_iload_n X eX4_hangsTogether_27 rfl ?_
            refine r_iald X eX4_hangsTogether_28 (by omega) f1 (by omega) (by decide) ?_
            refine r_top (y := nI (s i)) (hs10 i (by omega)).1 ?_
            refine r_aload_n X eX4_hangsTogether_29 rfl ?_
            refine gf_X4_9 X eX4_hangsTogether_30 (by omega) f0 ?_
            have hsj := (hs10 (i - 1) (by omega)).2
            refine r_iload_n X eX4_hangsTogether_33 rfl ?_
            refine r_iconst X eX4_hangsTogether_34 (nI 1) (by decide) ?_
            refine r_isub X eX4_hangsTogether_35 (nI (i - 1)) (pk_sub (by omega)) ?_
            refine r_iald X eX4_hangsTogether_36 (by omega) f1 (by omega) (by decide) ?_
            refine r_top (y := nI (s (i - 1))) (hs10 (i - 1) (by omega)).1 ?_
            refine r_isub X eX4_hangsTogether_37 (nI (s i) - nI (s (i - 1))) rfl ?_
            refine ab_X4_73 X eX4_hangsTogether_38 rfl (Nat.le_of_ble_eq_true rfl) (iab (nI (s i) - nI (s (i - 1)))) rfl ?_
            refine r_iconst X eX4_hangsTogether_41 (nI 1) (by decide) ?_
            refine r_icmp_le (tgt := 47) X eX4_hangsTogether_42 (by decide) (iab_sub (by omega) (by omega)) (nI_toInt (by omega)) (fun c_5 => ?_) (fun c_5 => ?_)
            ·
              refine r_iinc X eX4_hangsTogether_47 rfl (nI (i + 1)) (inc_nI _) (L2 := [some (.ref (b + ks)), some (.int (nI nl)), some (.int (nI nb)), some (.int (nI (i + 1)))]) rfl ?_
              refine r_goto (tgt := 2) X eX4_hangsTogether_50 (by decide) ?_
              exact ih1 (i + 1)  (by omega) (fun l hl => ht_1 h1 (by omega) hl) (fun l hl => ht_2 h2 (fun h0 => by omega) hl)  (by omega)
            ·
              refine r_iconst X eX4_hangsTogether_45 (nI 0) (by decide) ?_
              exact ret _ _ _ _ _ eX4_hangsTogether_46 (Or.inl rfl) (⟨bI_f (fun q => absurd (q.2 (i - 1) (by omega)) (by rw [show i - 1 + 1 = i by omega]; omega)), rfl⟩)
        ·
          refine r_iconst X eX4_hangsTogether_17 (nI 0) (by decide) ?_
          exact ret _ _ _ _ _ eX4_hangsTogether_18 (Or.inl rfl) (⟨bI_f (fun q => absurd (q.1 i (by omega)) (by omega)), rfl⟩)
  exact lp1 _ 0  (by omega) (fun l hl => absurd hl (by omega)) (fun l hl => absurd hl (by omega))  (Nat.lt_succ_self _)
set_option maxHeartbeats 4000000 in
set_option maxRecDepth 100000 in
theorem c_X4_sumOfCosts (l : Launch) (G : Gs) (b N : Nat) (w : Wd) (ks : Nat) (hks : ks + 4 ≤ N) (way : Nat) (tot : Int32) (pl ce go : Nat → Int32) (hs : isSm G b w ks way tot pl ce go) (k : Nat) (hk : k + 3 ≤ N) (hdj : ks + 4 ≤ k ∨ k + 3 ≤ ks) (wd hg lw : Nat) (ga ma : Nat → Int32) (hp : isPic G b w k wd hg lw ga ma) (hw : way < 2) (s : Nat → Nat) (hpl : okP pl s (li way wd hg) (br way wd hg)) : CI l yX4_sumOfCosts cX4_sumOfCosts 5 (some .int) 3 G b N w [.ref (b + ks), .ref (b + k), .int (nI (li way wd hg))] (fun r w2 => r = sm (fun l => coS lw (br way wd hg) (li way wd hg) (vg way ga) (vg way ma) l (s l) (s (l - 1))) (li way wd hg) ∧ w2 = w) := by
  obtain ⟨f0, f1, f2, f3⟩ := hs
  obtain ⟨e0, e1, e2, q1, q2, q3, q4, q5⟩ := hp
  have hbr := br_or way wd hg
  have hli := li_or way wd hg
  refine CI_of (L0 := [some (.ref (b + ks)), some (.ref (b + k)), some (.int (nI (li way wd hg))), none, none]) (by decide) rfl (by simp [Value.category]) rfl (Nat.le_of_ble_eq_true rfl) rfl (fun κ X ret => ?_)
  refine r_iconst X eX4_sumOfCosts_0 ((0 : Int32)) (by decide) ?_
  refine r_istore_n X eX4_sumOfCosts_1 (Nat.le_of_ble_eq_true rfl) (L2 := [some (.ref (b + ks)), some (.ref (b + k)), some (.int (nI (li way wd hg))), some (.int ((0 : Int32))), none]) rfl ?_
  refine r_iconst X eX4_sumOfCosts_2 (nI 0) (by decide) ?_
  refine r_istore X eX4_sumOfCosts_3 (Nat.le_of_ble_eq_true rfl) (L2 := [some (.ref (b + ks)), some (.ref (b + k)), some (.int (nI (li way wd hg))), some (.int ((0 : Int32))), some (.int (nI 0))]) rfl ?_
  have lp1 : ∀ (fu : Nat) (i : Nat) (c : Int32), (i ≤ li way wd hg) → (c = sm (fun l => coS lw (br way wd hg) (li way wd hg) (vg way ga) (vg way ma) l (s l) (s (l - 1))) i) → li way wd hg - i < fu → V κ G b (N, 0, 0) w 5 [some (.ref (b + ks)), some (.ref (b + k)), some (.int (nI (li way wd hg))), some (.int c), some (.int (nI i))] [] := by
    intro fu
    induction fu with
    | zero => intro i c hi hc hm; exact absurd hm (Nat.not_lt_zero _)
    | succ fu ih1 =>
      intro i c hi hc hm
      refine r_iload X eX4_sumOfCosts_5 rfl ?_
      refine r_iload_n X eX4_sumOfCosts_7 rfl ?_
      refine r_icmp_ge (tgt := 71) X eX4_sumOfCosts_8 (by decide) (nI_toInt (by omega)) (nI_toInt (by omega)) (fun c_2 => ?_) (fun c_2 => ?_)
      ·
        refine r_iload_n X eX4_sumOfCosts_71 rfl ?_
        exact ret _ _ _ _ _ eX4_sumOfCosts_72 (⟨hc.trans (sm_eq (by omega)), rfl⟩)
      ·
        have hsi := (hpl i (by omega)).2
        refine r_iload_n X eX4_sumOfCosts_11 rfl ?_
        refine r_aload_n X eX4_sumOfCosts_12 rfl ?_
        refine r_aload_n X eX4_sumOfCosts_13 rfl ?_
        refine gf_X4_21 X eX4_sumOfCosts_14 (by omega) f0 ?_
        refine r_iload X eX4_sumOfCosts_17 rfl ?_
        refine r_aload_n X eX4_sumOfCosts_19 rfl ?_
        refine gf_X4_9 X eX4_sumOfCosts_20 (by omega) f0 ?_
        refine r_iload X eX4_sumOfCosts_23 rfl ?_
        refine r_iald X eX4_sumOfCosts_25 (by omega) f1 (by omega) (by decide) ?_
        refine r_top (y := nI (s i)) (hpl i (by omega)).1 ?_
        refine cp_X4_44 X eX4_sumOfCosts_26 (c_X3_standingCost _ G b N w k hk wd hg lw ga ma ⟨e0, e1, e2, q1, q2, q3, q4, q5⟩ way i (s i) hw (by omega) (by omega)) (by decide) (by omega) e0 rfl (Nat.le_of_ble_eq_true rfl) ?_
        refine r_iadd X eX4_sumOfCosts_29 (c + (stS lw (br way wd hg) (li way wd hg) (vg way ga) (vg way ma) i (s i))) rfl ?_
        refine r_istore_n X eX4_sumOfCosts_30 (Nat.le_of_ble_eq_true rfl) (L2 := [some (.ref (b + ks)), some (.ref (b + k)), some (.int (nI (li way wd hg))), some (.int (c + (stS lw (br way wd hg) (li way wd hg) (vg way ga) (vg way ma) i (s i)))), some (.int (nI i))]) rfl ?_
        refine r_iload X eX4_sumOfCosts_31 rfl ?_
        refine r_if_le (tgt := 65) X eX4_sumOfCosts_33 (by decide) (nI_toInt (by omega)) (fun c_3 => ?_) (fun c_3 => ?_)
        ·
          refine r_iinc X eX4_sumOfCosts_65 rfl (nI (i + 1)) (inc_nI _) (L2 := [some (.ref (b + ks)), some (.ref (b + k)), some (.int (nI (li way wd hg))), some (.int (c + (stS lw (br way wd hg) (li way wd hg) (vg way ga) (vg way ma) i (s i)))), some (.int (nI (i + 1)))]) rfl ?_
          refine r_goto (tgt := 5) X eX4_sumOfCosts_68 (by decide) ?_
          exact ih1 (i + 1) (c + (stS lw (br way wd hg) (li way wd hg) (vg way ga) (vg way ma) i (s i)))  (by omega) (by rw [hc, sm, show i = 0 by omega]; exact congrArg _ co_self.symm)  (by omega)
        ·
          have hsj := (hpl (i - 1) (by omega)).2
          refine r_iload_n X eX4_sumOfCosts_36 rfl ?_
          refine r_aload_n X eX4_sumOfCosts_37 rfl ?_
          refine r_aload_n X eX4_sumOfCosts_38 rfl ?_
          refine gf_X4_21 X eX4_sumOfCosts_39 (by omega) f0 ?_
          refine r_iload X eX4_sumOfCosts_42 rfl ?_
          refine r_aload_n X eX4_sumOfCosts_44 rfl ?_
          refine gf_X4_9 X eX4_sumOfCosts_45 (by omega) f0 ?_
          refine r_iload X eX4_sumOfCosts_48 rfl ?_
          refine r_iald X eX4_sumOfCosts_50 (by omega) f1 (by omega) (by decide) ?_
          refine r_top (y := nI (s i)) (hpl i (by omega)).1 ?_
          refine r_aload_n X eX4_sumOfCosts_51 rfl ?_
          refine gf_X4_9 X eX4_sumOfCosts_52 (by omega) f0 ?_
          refine r_iload X eX4_sumOfCosts_55 rfl ?_
          refine r_iconst X eX4_sumOfCosts_57 (nI 1) (by decide) ?_
          refine r_isub X eX4_sumOfCosts_58 (nI (i - 1)) (pk_sub (by omega)) ?_
          refine r_iald X eX4_sumOfCosts_59 (by omega) f1 (by omega) (by decide) ?_
          refine r_top (y := nI (s (i - 1))) (hpl (i - 1) (by omega)).1 ?_
          refine cp_X4_61 X eX4_sumOfCosts_60 (c_X3_turningCost _ G b N w k hk wd hg lw ga ma ⟨e0, e1, e2, q1, q2, q3, q4, q5⟩ way i (s i) hw (by omega) (by omega) (s (i - 1)) (by omega)) (by decide) (by omega) e0 rfl (Nat.le_of_ble_eq_true rfl) ?_
          refine r_iadd X eX4_sumOfCosts_63 ((c + (stS lw (br way wd hg) (li way wd hg) (vg way ga) (vg way ma) i (s i))) + (tuS lw (br way wd hg) (vg way ga) i (s i) (s (i - 1)))) rfl ?_
          refine r_istore_n X eX4_sumOfCosts_64 (Nat.le_of_ble_eq_true rfl) (L2 := [some (.ref (b + ks)), some (.ref (b + k)), some (.int (nI (li way wd hg))), some (.int ((c + (stS lw (br way wd hg) (li way wd hg) (vg way ga) (vg way ma) i (s i))) + (tuS lw (br way wd hg) (vg way ga) i (s i) (s (i - 1))))), some (.int (nI i))]) rfl ?_
          refine r_iinc X eX4_sumOfCosts_65 rfl (nI (i + 1)) (inc_nI _) (L2 := [some (.ref (b + ks)), some (.ref (b + k)), some (.int (nI (li way wd hg))), some (.int ((c + (stS lw (br way wd hg) (li way wd hg) (vg way ga) (vg way ma) i (s i))) + (tuS lw (br way wd hg) (vg way ga) i (s i) (s (i - 1))))), some (.int (nI (i + 1)))]) rfl ?_
          refine r_goto (tgt := 5) X eX4_sumOfCosts_68 (by decide) ?_
          exact ih1 (i + 1) ((c + (stS lw (br way wd hg) (li way wd hg) (vg way ga) (vg way ma) i (s i))) + (tuS lw (br way wd hg) (vg way ga) i (s i) (s (i - 1))))  (by omega) (by rw [hc, Int32.add_assoc]; rfl)  (by omega)
  exact lp1 _ 0 0  (by omega) rfl  (Nat.lt_succ_self _)
set_option maxHeartbeats 4000000 in
set_option maxRecDepth 100000 in
theorem c_X4_readNumber (l : Launch) (G : Gs) (b N : Nat) (w : Wd) (ks : Nat) (hks : ks + 4 ≤ N) (way0 : Nat) (tot : Int32) (pl ce go : Nat → Int32) (hs : isSm G b w ks way0 tot pl ce go) (k : Nat) (hk : k + 3 ≤ N) (hdj : ks + 4 ≤ k ∨ k + 3 ≤ ks) (wd hg lw : Nat) (ga ma : Nat → Int32) (hp : isPic G b w k wd hg lw ga ma) (way : Nat) (hw : way < 2) (n : Nat) (hn : n < 2 ^ 31) : CI l yX4_readNumber cX4_readNumber 7 (some .boolean) 4 G b N w [.ref (b + ks), .ref (b + k), .int (nI way), .int (nI n)] (fun r w2 => ∃ tot2 pl2, isSm G b w2 ks way tot2 pl2 ce go ∧ r = bI (okN n (li way wd hg) (br way wd hg)) ∧ (okN n (li way wd hg) (br way wd hg) → tot2 = sm (fun l => coS lw (br way wd hg) (li way wd hg) (vg way ga) (vg way ma) l (dg n (li way wd hg) l) (dg n (li way wd hg) (l - 1))) (li way wd hg)) ∧ ∀ j, (j < ks ∨ ks + 4 ≤ j) → w2 j = w j) := by
  obtain ⟨f0, f1, f2, f3⟩ := hs
  obtain ⟨e0, e1, e2, q1, q2, q3, q4, q5⟩ := hp
  have hbr := br_or way wd hg
  have hli := li_or way wd hg
  refine CZ_of (L0 := [some (.ref (b + ks)), some (.ref (b + k)), some (.int (nI way)), some (.int (nI n)), none, none, none]) (by decide) rfl (by simp [Value.category]) rfl (Nat.le_of_ble_eq_true rfl) rfl (fun κ X ret => ?_)
  have fr_w : ∀ j, (j < ks ∨ ks + 4 ≤ j) → w j = w j := fun _ _ => rfl
  refine r_aload_n X eX4_readNumber_0 rfl ?_
  refine r_iload_n X eX4_readNumber_1 rfl ?_
  refine pf_X4_21 X eX4_readNumber_2 (by omega) f0 (fun w1 n1_w1 uu1 => ?_)
  have f1_w1 := (uu1 (ks + 1) (by omega)).trans f1
  have f2_w1 := (uu1 (ks + 2) (by omega)).trans f2
  have f3_w1 := (uu1 (ks + 3) (by omega)).trans f3
  have e0_w1 := (uu1 k (by omega)).trans e0
  have e1_w1 := (uu1 (k + 1) (by omega)).trans e1
  have e2_w1 := (uu1 (k + 2) (by omega)).trans e2
  have fr_w1 : ∀ j, (j < ks ∨ ks + 4 ≤ j) → w1 j = w j := fun j hj => (uu1 j (by omega)).trans (fr_w j hj)
  refine r_aload_n X eX4_readNumber_5 rfl ?_
  refine r_aload_n X eX4_readNumber_6 rfl ?_
  refine gf_X4_21 X eX4_readNumber_7 (by omega) n1_w1 ?_
  refine cp_X4_25 X eX4_readNumber_10 (c_X3_lines _ G b N w1 k hk wd hg lw ga ma ⟨e0_w1, e1_w1, e2_w1, q1, q2, q3, q4, q5⟩ way (by omega)) (by decide) (by omega) e0_w1 rfl (Nat.le_of_ble_eq_true rfl) ?_
  refine r_istore X eX4_readNumber_13 (Nat.le_of_ble_eq_true rfl) (L2 := [some (.ref (b + ks)), some (.ref (b + k)), some (.int (nI way)), some (.int (nI n)), some (.int (nI (li way wd hg))), none, none]) rfl ?_
  refine r_iload_n X eX4_readNumber_15 rfl ?_
  refine r_istore X eX4_readNumber_16 (Nat.le_of_ble_eq_true rfl) (L2 := [some (.ref (b + ks)), some (.ref (b + k)), some (.int (nI way)), some (.int (nI n)), some (.int (nI (li way wd hg))), some (.int (nI n)), none]) rfl ?_
  refine r_iload X eX4_readNumber_18 rfl ?_
  refine r_iconst X eX4_readNumber_20 (nI 1) (by decide) ?_
  refine r_isub X eX4_readNumber_21 (nP (li way wd hg)) (subP _) ?_
  refine r_istore X eX4_readNumber_22 (Nat.le_of_ble_eq_true rfl) (L2 := [some (.ref (b + ks)), some (.ref (b + k)), some (.int (nI way)), some (.int (nI n)), some (.int (nI (li way wd hg))), some (.int (nI n)), some (.int (nP (li way wd hg)))]) rfl ?_
  have lp2 : ∀ (fu : Nat) (t d : Nat) (pl2 : Nat → Int32) (w2 : Wd), (t ≤ li way wd hg) → (d = n / 10 ^ (li way wd hg - t)) → (d < 2 ^ 31) → (∀ l, t ≤ l → l < li way wd hg → pl2 l = nI (dg n (li way wd hg) l)) → (w2 ks = .inr (4, [.int (nI way), .int tot, .ref (b + (ks + 1)), .ref (b + (ks + 2)), .ref (b + (ks + 3))])) → (w2 (ks + 1) = aI G 8 pl2) → (w2 (ks + 2) = aI G 64 ce) → (w2 (ks + 3) = aI G 64 go) → (w2 k = .inr (3, [.int (nI wd), .int (nI hg), .int (nI lw), .ref (b + (k + 1)), .ref (b + (k + 2))])) → (w2 (k + 1) = aI G 64 ga) → (w2 (k + 2) = aI G 64 ma) → (∀ j, (j < ks ∨ ks + 4 ≤ j) → w2 j = w j) → t < fu → V κ G b (N, 0, 0) w2 24 [some (.ref (b + ks)), some (.ref (b + k)), some (.int (nI way)), some (.int (nI n)), some (.int (nI (li way wd hg))), some (.int (nI d)), some (.int (nP t))] [] := by
    intro fu
    induction fu with
    | zero => intro t d pl2 w2 ht hd hdl hz n1_w2 f1_w2 f2_w2 f3_w2 e0_w2 e1_w2 e2_w2 fr_w2 hm; exact absurd hm (Nat.not_lt_zero _)
    | succ fu ih2 =>
      intro t d pl2 w2 ht hd hdl hz n1_w2 f1_w2 f2_w2 f3_w2 e0_w2 e1_w2 e2_w2 fr_w2 hm
      refine r_iload X eX4_readNumber_24 rfl ?_
      refine r_if_lt (tgt := 54) X eX4_readNumber_26 (by decide) (nP_toInt (by omega)) (fun c_3 => ?_) (fun c_3 => ?_)
      ·
        have hd0 : d = n / 10 ^ (li way wd hg) := by rw [hd, show t = 0 by omega]; rfl
        refine r_iload X eX4_readNumber_54 rfl ?_
        refine r_if_ne (tgt := 76) X eX4_readNumber_56 (by decide) (nI_toInt (by omega)) (fun c_4 => ?_) (fun c_4 => ?_)
        ·
          refine r_iconst X eX4_readNumber_76 (nI 0) (by decide) ?_
          exact ret _ _ _ _ _ eX4_readNumber_77 (Or.inl rfl) (⟨_, _, ⟨n1_w2, f1_w2, f2_w2, f3_w2⟩, bI_f (fun q => absurd q.1 (by omega)), fun q => absurd q.1 (by omega), fr_w2⟩)
        ·
          refine r_aload_n X eX4_readNumber_59 rfl ?_
          refine r_iload X eX4_readNumber_60 rfl ?_
          refine r_aload_n X eX4_readNumber_62 rfl ?_
          refine r_aload_n X eX4_readNumber_63 rfl ?_
          refine gf_X4_21 X eX4_readNumber_64 (by omega) n1_w2 ?_
          refine cp_X4_31 X eX4_readNumber_67 (c_X3_breadth _ G b N w2 k hk wd hg lw ga ma ⟨e0_w2, e1_w2, e2_w2, q1, q2, q3, q4, q5⟩ way (by omega)) (by decide) (by omega) e0_w2 rfl (Nat.le_of_ble_eq_true rfl) ?_
          refine cp_X4_65 X eX4_readNumber_70 (c_X4_hangsTogether _ G b N w2 ks hks way tot pl2 ce go ⟨n1_w2, f1_w2, f2_w2, f3_w2⟩ (li way wd hg) (br way wd hg) (by omega) (by omega) (dg n (li way wd hg)) (fun l hl => ⟨hz l (by omega) hl, dg_lt _ _ _⟩)) (by decide) (by omega) n1_w2 rfl (Nat.le_of_ble_eq_true rfl) ?_
          refine r_ifne_b (tgt := 78) X eX4_readNumber_73 (by decide) (fun c_5 => ?_) (fun c_5 => ?_)
          ·
            have hok := c_5
            refine r_aload_n X eX4_readNumber_78 rfl ?_
            refine r_aload_n X eX4_readNumber_79 rfl ?_
            refine r_aload_n X eX4_readNumber_80 rfl ?_
            refine r_iload X eX4_readNumber_81 rfl ?_
            refine cp_X4_69 X eX4_readNumber_83 (c_X4_sumOfCosts _ G b N w2 ks hks way tot pl2 ce go ⟨n1_w2, f1_w2, f2_w2, f3_w2⟩ k hk hdj wd hg lw ga ma ⟨e0_w2, e1_w2, e2_w2, q1, q2, q3, q4, q5⟩ hw (dg n (li way wd hg)) (fun l hl => ⟨hz l (by omega) hl, hok.1 l hl⟩)) (by decide) (by omega) n1_w2 rfl (Nat.le_of_ble_eq_true rfl) ?_
            refine pf_X4_41 X eX4_readNumber_86 (by omega) n1_w2 (fun w6 n6_w6 uu6 => ?_)
            have f1_w6 := (uu6 (ks + 1) (by omega)).trans f1_w2
            have f2_w6 := (uu6 (ks + 2) (by omega)).trans f2_w2
            have f3_w6 := (uu6 (ks + 3) (by omega)).trans f3_w2
            have e0_w6 := (uu6 k (by omega)).trans e0_w2
            have e1_w6 := (uu6 (k + 1) (by omega)).trans e1_w2
            have e2_w6 := (uu6 (k + 2) (by omega)).trans e2_w2
            have fr_w6 : ∀ j, (j < ks ∨ ks + 4 ≤ j) → w6 j = w j := fun j hj => (uu6 j (by omega)).trans (fr_w2 j hj)
            refine r_iconst X eX4_readNumber_89 (nI 1) (by decide) ?_
            exact ret _ _ _ _ _ eX4_readNumber_90 (Or.inr rfl) (⟨_, _, ⟨n6_w6, f1_w6, f2_w6, f3_w6⟩, bI_t ⟨by omega, hok⟩, fun _ => rfl, fr_w6⟩)
          ·
            refine r_iconst X eX4_readNumber_76 (nI 0) (by decide) ?_
            exact ret _ _ _ _ _ eX4_readNumber_77 (Or.inl rfl) (⟨_, _, ⟨n1_w2, f1_w2, f2_w2, f3_w2⟩, bI_f (fun q => c_5 q.2), fun q => absurd q.2 c_5, fr_w2⟩)
      ·
        rw [nP_pos (show 0 < t by omega)]
        refine r_aload_n X eX4_readNumber_29 rfl ?_
        refine gf_X4_9 X eX4_readNumber_30 (by omega) n1_w2 ?_
        refine r_iload X eX4_readNumber_33 rfl ?_
        refine r_iload X eX4_readNumber_35 rfl ?_
        refine r_bipush X eX4_readNumber_37 (nI 10) (by decide) ?_
        refine r_irem X eX4_readNumber_39 (nI_ne0 (by omega) (by omega)) (nI (d % 10)) (pk_rem (by omega) (by omega) (by omega)) ?_
        refine r_iast X eX4_readNumber_40 (by omega) f1_w2 (by omega) (by decide) (fun w7 n7_w7 uu7 => ?_)
        have n1_w7 := (uu7 ks (by omega)).trans n1_w2
        have f2_w7 := (uu7 (ks + 2) (by omega)).trans f2_w2
        have f3_w7 := (uu7 (ks + 3) (by omega)).trans f3_w2
        have e0_w7 := (uu7 k (by omega)).trans e0_w2
        have e1_w7 := (uu7 (k + 1) (by omega)).trans e1_w2
        have e2_w7 := (uu7 (k + 2) (by omega)).trans e2_w2
        have fr_w7 : ∀ j, (j < ks ∨ ks + 4 ≤ j) → w7 j = w j := fun j hj => (uu7 j (by omega)).trans (fr_w2 j hj)
        refine r_iload X eX4_readNumber_41 rfl ?_
        refine r_bipush X eX4_readNumber_43 (nI 10) (by decide) ?_
        refine r_idiv X eX4_readNumber_45 (nI_ne0 (by omega) (by omega)) (nI (d / 10)) (pk_div (by omega) (by omega) (by omega)) ?_
        refine r_istore X eX4_readNumber_46 (Nat.le_of_ble_eq_true rfl) (L2 := [some (.ref (b + ks)), some (.ref (b + k)), some (.int (nI way)), some (.int (nI n)), some (.int (nI (li way wd hg))), some (.int (nI (d / 10))), some (.int (nI (t - 1)))]) rfl ?_
        refine r_iinc X eX4_readNumber_48 rfl (nP (t - 1)) (dec_nI _) (L2 := [some (.ref (b + ks)), some (.ref (b + k)), some (.int (nI way)), some (.int (nI n)), some (.int (nI (li way wd hg))), some (.int (nI (d / 10))), some (.int (nP (t - 1)))]) rfl ?_
        refine r_goto (tgt := 24) X eX4_readNumber_51 (by decide) ?_
        exact ih2 (t - 1) (d / 10) (upd pl2 (t - 1) (nI (d % 10))) w7 (by omega) (div_st (by omega) ht hd) (by omega) (fun l h1 h2 => upd_dn (by omega) (dg_st (by omega) ht hd) hz h1 h2) n1_w7 n7_w7 f2_w7 f3_w7 e0_w7 e1_w7 e2_w7 fr_w7 (by omega)
  exact lp2 _ (li way wd hg) n pl w1 (Nat.le_refl _) (by rw [Nat.sub_self, Nat.pow_zero, Nat.div_one]) hn (fun l h1 h2 => absurd h1 (by omega)) n1_w1 f1_w1 f2_w1 f3_w1 e0_w1 e1_w1 e2_w1 fr_w1 (Nat.lt_succ_self _)
