theorem upd2_c {A M ga ma : Nat → Int32} {i j : Nat} (h : ∀ j, j < i → A j = ga j ∧ M j = ma j) (hj : j < i + 1) : upd A i (ga i) j = ga j ∧ upd M i (ma i) j = ma j := by
  by_cases e : j = i
  · subst e; exact ⟨upd_self, upd_self⟩
  · rw [upd_ne e, upd_ne e]; exact h j (by omega)
theorem upd2_0 {A M : Nat → Int32} {i j : Nat} (h : ∀ j, j < i → A j = 0 ∧ M j = 0) (hj : j < i + 1) : upd A i 0 j = 0 ∧ upd M i 0 j = 0 := upd2_c (ga := fun _ => 0) (ma := fun _ => 0) h hj
set_option maxHeartbeats 4000000 in
set_option maxRecDepth 100000 in
theorem c_X3_takeOut (l : Launch) (G : Gs) (b N : Nat) (w : Wd) (k : Nat) (hk : k + 3 ≤ N) (wd hg lw : Nat) (ga ma : Nat → Int32) (hp : isPic G b w k wd hg lw ga ma) (ks way : Nat) (hks : ks + 4 ≤ N) (hdj : ks + 4 ≤ k ∨ k + 3 ≤ ks) (hw : way < 2) (tot : Int32) (pl ce go : Nat → Int32) (hs : isSm G b w ks way tot pl ce go) (s : Nat → Nat) (hpl : okP pl s (li way wd hg) (br way wd hg)) (hb : 2 < br way wd hg) : CV l yX3_takeOut cX3_takeOut 5 2 G b N w [.ref (b + k), .ref (b + ks)] (fun w2 => ∃ ga2 ma2, isPic G b w2 k (wd - (1 - way)) (hg - way) lw ga2 ma2 ∧ (∀ l p, l < li way wd hg → p < br way wd hg - 1 → vg way ga2 l p = shS s (vg way ga) l p ∧ vg way ma2 l p = shS s (vg way ma) l p) ∧ ∀ j, (j < k ∨ k + 3 ≤ j) → w2 j = w j) := by
  obtain ⟨e0, e1, e2, q1, q2, q3, q4, q5⟩ := hp
  obtain ⟨f0, f1, f2, f3⟩ := hs
  have hbr := br_or way wd hg
  have hli := li_or way wd hg
  refine CV_of (L0 := [some (.ref (b + k)), some (.ref (b + ks)), none, none, none]) (by decide) rfl (by simp [Value.category]) rfl (Nat.le_of_ble_eq_true rfl) (fun κ X ret => ?_)
  have fr_w : ∀ j, (j < k ∨ k + 3 ≤ j) → w j = w j := fun _ _ => rfl
  refine r_aload_n X eX3_takeOut_0 rfl ?_
  refine r_aload_n X eX3_takeOut_1 rfl ?_
  refine gf_X3_66 X eX3_takeOut_2 (by omega) f0 ?_
  refine cp_X3_38 X eX3_takeOut_5 (c_X3_breadth _ G b N w k hk wd hg lw ga ma ⟨e0, e1, e2, q1, q2, q3, q4, q5⟩ way (by omega)) (by decide) (by omega) e0 rfl (Nat.le_of_ble_eq_true rfl) ?_
  refine r_iconst X eX3_takeOut_8 (nI 1) (by decide) ?_
  refine r_isub X eX3_takeOut_9 (nI ((br way wd hg) - 1)) (pk_sub (by omega)) ?_
  refine r_istore_n X eX3_takeOut_10 (Nat.le_of_ble_eq_true rfl) (L2 := [some (.ref (b + k)), some (.ref (b + ks)), some (.int (nI ((br way wd hg) - 1))), none, none]) rfl ?_
  refine r_iconst X eX3_takeOut_11 (nI 0) (by decide) ?_
  refine r_istore_n X eX3_takeOut_12 (Nat.le_of_ble_eq_true rfl) (L2 := [some (.ref (b + k)), some (.ref (b + ks)), some (.int (nI ((br way wd hg) - 1))), some (.int (nI 0)), none]) rfl ?_
  have lp1 : ∀ (fu : Nat) (y : Nat) (A M : Nat → Int32) (w1 : Wd), (y ≤ li way wd hg) → (CutI way ga s (li way wd hg) (br way wd hg) y 0 A) → (CutI way ma s (li way wd hg) (br way wd hg) y 0 M) → (w1 k = .inr (3, [.int (nI wd), .int (nI hg), .int (nI lw), .ref (b + (k + 1)), .ref (b + (k + 2))])) → (w1 (k + 1) = aI G 64 A) → (w1 (k + 2) = aI G 64 M) → (w1 ks = .inr (4, [.int (nI way), .int tot, .ref (b + (ks + 1)), .ref (b + (ks + 2)), .ref (b + (ks + 3))])) → (w1 (ks + 1) = aI G 8 pl) → (w1 (ks + 2) = aI G 64 ce) → (w1 (ks + 3) = aI G 64 go) → (∀ j, (j < k ∨ k + 3 ≤ j) → w1 j = w j) → li way wd hg - y < fu → V κ G b (N, 0, 0) w1 13 [some (.ref (b + k)), some (.ref (b + ks)), some (.int (nI ((br way wd hg) - 1))), some (.int (nI y)), none] [] := by
    intro fu
    induction fu with
    | zero => intro y A M w1 hy hA hM e0_w1 e1_w1 e2_w1 f0_w1 f1_w1 f2_w1 f3_w1 fr_w1 hm; exact absurd hm (Nat.not_lt_zero _)
    | succ fu ih1 =>
      intro y A M w1 hy hA hM e0_w1 e1_w1 e2_w1 f0_w1 f1_w1 f2_w1 f3_w1 fr_w1 hm
      refine r_iload_n X eX3_takeOut_13 rfl ?_
      refine r_aload_n X eX3_takeOut_14 rfl ?_
      refine r_aload_n X eX3_takeOut_15 rfl ?_
      refine gf_X3_66 X eX3_takeOut_16 (by omega) f0_w1 ?_
      refine cp_X3_71 X eX3_takeOut_19 (c_X3_lines _ G b N w1 k hk wd hg lw A M ⟨e0_w1, e1_w1, e2_w1, q1, q2, q3, q4, q5⟩ way (by omega)) (by decide) (by omega) e0_w1 rfl (Nat.le_of_ble_eq_true rfl) ?_
      refine r_icmp_ge (tgt := 66) X eX3_takeOut_22 (by decide) (nI_toInt (by omega)) (nI_toInt (by omega)) (fun c_2 => ?_) (fun c_2 => ?_)
      ·
        refine r_aload_n X eX3_takeOut_66 rfl ?_
        refine r_aload_n X eX3_takeOut_67 rfl ?_
        refine gf_X3_66 X eX3_takeOut_68 (by omega) f0_w1 ?_
        refine r_iconst X eX3_takeOut_71 ((-1 : Int32)) (by decide) ?_
        refine cv_X3_81 X eX3_takeOut_72 (c_X3_broaden_m _ G b N w1 k hk wd hg lw A M ⟨e0_w1, e1_w1, e2_w1, q1, q2, q3, q4, q5⟩ way hw hb) (by decide) (by omega) e0_w1 rfl (Nat.le_of_ble_eq_true rfl) (fun w3 hp3 => ?_)
        obtain ⟨⟨x0_3, x1_3, x2_3, t1, t2, t3, t4, t5⟩, g3⟩ := hp3
        have f0_w3 := (g3 ks (by omega)).trans f0_w1
        have f1_w3 := (g3 (ks + 1) (by omega)).trans f1_w1
        have f2_w3 := (g3 (ks + 2) (by omega)).trans f2_w1
        have f3_w3 := (g3 (ks + 3) (by omega)).trans f3_w1
        have m4_w3 : w3 k = .inr (3, [.int (nI (wd - (1 - way))), .int (nI (hg - way)), .int (nI lw), .ref (b + (k + 1)), .ref (b + (k + 2))]) := x0_3
        have m5_w3 : w3 (k + 1) = aI G 64 A := x1_3
        have m6_w3 : w3 (k + 2) = aI G 64 M := x2_3
        have fr_w3 : ∀ j, (j < k ∨ k + 3 ≤ j) → w3 j = w j := fun j hj => (g3 j (by omega)).trans (fr_w1 j hj)
        exact ret _ _ _ _ eX3_takeOut_75 (⟨A, M, ⟨m4_w3, m5_w3, m6_w3, t1, t2, t3, t4, t5⟩, fun l p h1 h2 => ⟨CutI_end (by omega) hA l p h1 h2, CutI_end (by omega) hM l p h1 h2⟩, fr_w3⟩)
      ·
        have hsy := (hpl y (by omega)).2
        refine r_aload_n X eX3_takeOut_25 rfl ?_
        refine gf_X3_74 X eX3_takeOut_26 (by omega) f0_w1 ?_
        refine r_iload_n X eX3_takeOut_29 rfl ?_
        refine r_iald X eX3_takeOut_30 (by omega) f1_w1 (by omega) (by decide) ?_
        refine r_top (y := nI (s y)) (hpl y (by omega)).1 ?_
        refine r_istore X eX3_takeOut_31 (Nat.le_of_ble_eq_true rfl) (L2 := [some (.ref (b + k)), some (.ref (b + ks)), some (.int (nI ((br way wd hg) - 1))), some (.int (nI y)), some (.int (nI (s y)))]) rfl ?_
        have lp7 : ∀ (fu : Nat) (p : Nat) (A2 M2 : Nat → Int32) (w7 : Wd), (s y ≤ p) → (p ≤ br way wd hg - 1) → (CutI way ga s (li way wd hg) (br way wd hg) y p A2) → (CutI way ma s (li way wd hg) (br way wd hg) y p M2) → (w7 k = .inr (3, [.int (nI wd), .int (nI hg), .int (nI lw), .ref (b + (k + 1)), .ref (b + (k + 2))])) → (w7 (k + 1) = aI G 64 A2) → (w7 (k + 2) = aI G 64 M2) → (w7 ks = .inr (4, [.int (nI way), .int tot, .ref (b + (ks + 1)), .ref (b + (ks + 2)), .ref (b + (ks + 3))])) → (w7 (ks + 1) = aI G 8 pl) → (w7 (ks + 2) = aI G 64 ce) → (w7 (ks + 3) = aI G 64 go) → (∀ j, (j < k ∨ k + 3 ≤ j) → w7 j = w j) → br way wd hg - p < fu → V κ G b (N, 0, 0) w7 33 [some (.ref (b + k)), some (.ref (b + ks)), some (.int (nI ((br way wd hg) - 1))), some (.int (nI y)), some (.int (nI p))] [] := by
          intro fu
          induction fu with
          | zero => intro p A2 M2 w7 hp1 hp2 hA2 hM2 e0_w7 e1_w7 e2_w7 f0_w7 f1_w7 f2_w7 f3_w7 fr_w7 hm; exact absurd hm (Nat.not_lt_zero _)
          | succ fu ih7 =>
            intro p A2 M2 w7 hp1 hp2 hA2 hM2 e0_w7 e1_w7 e2_w7 f0_w7 f1_w7 f2_w7 f3_w7 fr_w7 hm
            refine r_iload X eX3_takeOut_33 rfl ?_
            refine r_iload_n X eX3_takeOut_35 rfl ?_
            refine r_icmp_ge (tgt := 60) X eX3_takeOut_36 (by decide) (nI_toInt (by omega)) (nI_toInt (by omega)) (fun c_8 => ?_) (fun c_8 => ?_)
            ·
              refine r_iinc X eX3_takeOut_60 rfl (nI (y + 1)) (inc_nI _) (L2 := [some (.ref (b + k)), some (.ref (b + ks)), some (.int (nI ((br way wd hg) - 1))), some (.int (nI (y + 1))), some (.int (nI p))]) rfl ?_
              refine r_goto (tgt := 13) X eX3_takeOut_63 (by decide) ?_
              refine r_fg 4 (L2 := [some (.ref (b + k)), some (.ref (b + ks)), some (.int (nI ((br way wd hg) - 1))), some (.int (nI (y + 1))), none]) rfl ?_
              exact ih1 (y + 1) A2 M2 w7 (by omega) (CutI_out (by omega) hA2) (CutI_out (by omega) hM2) e0_w7 e1_w7 e2_w7 f0_w7 f1_w7 f2_w7 f3_w7 fr_w7 (by omega)
            ·
              refine r_aload_n X eX3_takeOut_39 rfl ?_
              refine r_aload_n X eX3_takeOut_40 rfl ?_
              refine gf_X3_66 X eX3_takeOut_41 (by omega) f0_w7 ?_
              refine r_iload_n X eX3_takeOut_44 rfl ?_
              refine r_iload X eX3_takeOut_45 rfl ?_
              refine r_iconst X eX3_takeOut_47 (nI 1) (by decide) ?_
              refine r_iadd X eX3_takeOut_48 (nI (p + 1)) (addN (by omega)) ?_
              refine r_iload X eX3_takeOut_49 rfl ?_
              refine cv_X3_77 X eX3_takeOut_51 (c_X3_moveDot _ G b N w7 k hk wd hg lw A2 M2 ⟨e0_w7, e1_w7, e2_w7, q1, q2, q3, q4, q5⟩ way y (p + 1) p hw (by omega) (by omega) (by omega)) (by decide) (by omega) e0_w7 rfl (Nat.le_of_ble_eq_true rfl) (fun w9 hp9 => ?_)
              obtain ⟨⟨x0_9, x1_9, x2_9, -, -, -, -, -⟩, g9⟩ := hp9
              have f0_w9 := (g9 ks (by omega)).trans f0_w7
              have f1_w9 := (g9 (ks + 1) (by omega)).trans f1_w7
              have f2_w9 := (g9 (ks + 2) (by omega)).trans f2_w7
              have f3_w9 := (g9 (ks + 3) (by omega)).trans f3_w7
              have m10_w9 : w9 k = .inr (3, [.int (nI wd), .int (nI hg), .int (nI lw), .ref (b + (k + 1)), .ref (b + (k + 2))]) := x0_9
              have m11_w9 : w9 (k + 1) = aI G 64 (upd A2 (ix way y p) (A2 (ix way y (p + 1)))) := x1_9
              have m12_w9 : w9 (k + 2) = aI G 64 (upd M2 (ix way y p) (M2 (ix way y (p + 1)))) := x2_9
              have fr_w9 : ∀ j, (j < k ∨ k + 3 ≤ j) → w9 j = w j := fun j hj => (g9 j (by omega)).trans (fr_w7 j hj)
              refine r_iinc X eX3_takeOut_54 rfl (nI (p + 1)) (inc_nI _) (L2 := [some (.ref (b + k)), some (.ref (b + ks)), some (.int (nI ((br way wd hg) - 1))), some (.int (nI y)), some (.int (nI (p + 1)))]) rfl ?_
              refine r_goto (tgt := 33) X eX3_takeOut_57 (by decide) ?_
              exact ih7 (p + 1) (upd A2 (ix way y p) (A2 (ix way y (p + 1)))) (upd M2 (ix way y p) (M2 (ix way y (p + 1)))) w9 (by omega) (by omega) (CutI_st (by omega) (by omega) (by omega) (by omega) (by omega) hA2) (CutI_st (by omega) (by omega) (by omega) (by omega) (by omega) hM2) m10_w9 m11_w9 m12_w9 f0_w9 f1_w9 f2_w9 f3_w9 fr_w9 (by omega)
        exact lp7 _ (s y) A M w1 (by omega) (by omega) (CutI_in hA) (CutI_in hM) e0_w1 e1_w1 e2_w1 f0_w1 f1_w1 f2_w1 f3_w1 fr_w1 (Nat.lt_succ_self _)
  exact lp1 _ 0 ga ma w (by omega) CutI_0 CutI_0 e0 e1 e2 f0 f1 f2 f3 fr_w (Nat.lt_succ_self _)
set_option maxHeartbeats 4000000 in
set_option maxRecDepth 100000 in
theorem c_X3_putIn (l : Launch) (G : Gs) (b N : Nat) (w : Wd) (k : Nat) (hk : k + 3 ≤ N) (wd hg lw : Nat) (ga ma : Nat → Int32) (hp : isPic G b w k wd hg lw ga ma) (ks way : Nat) (hks : ks + 4 ≤ N) (hdj : ks + 4 ≤ k ∨ k + 3 ≤ ks) (hw : way < 2) (tot : Int32) (pl ce go : Nat → Int32) (hs : isSm G b w ks way tot pl ce go) (s : Nat → Nat) (hpl : okP pl s (li way wd hg) (br way wd hg)) (hb : br way wd hg < 8) : CV l yX3_putIn cX3_putIn 8 2 G b N w [.ref (b + k), .ref (b + ks)] (fun w2 => ∃ ga2 ma2, isPic G b w2 k (wd + (1 - way)) (hg + way) lw ga2 ma2 ∧ (∀ l p, l < li way wd hg → p < br way wd hg + 1 → vg way ga2 l p = adS s (midS s (br way wd hg) (vg way ga)) (vg way ga) l p ∧ vg way ma2 l p = adS s (fun _ => 0) (vg way ma) l p) ∧ ∀ j, (j < k ∨ k + 3 ≤ j) → w2 j = w j) := by
  obtain ⟨e0, e1, e2, q1, q2, q3, q4, q5⟩ := hp
  obtain ⟨f0, f1, f2, f3⟩ := hs
  have hbr := br_or way wd hg
  have hli := li_or way wd hg
  refine CV_of (L0 := [some (.ref (b + k)), some (.ref (b + ks)), none, none, none, none, none, none]) (by decide) rfl (by simp [Value.category]) rfl (Nat.le_of_ble_eq_true rfl) (fun κ X ret => ?_)
  have fr_w : ∀ j, (j < k ∨ k + 3 ≤ j) → w j = w j := fun _ _ => rfl
  refine r_aload_n X eX3_putIn_0 rfl ?_
  refine r_aload_n X eX3_putIn_1 rfl ?_
  refine gf_X3_66 X eX3_putIn_2 (by omega) f0 ?_
  refine cp_X3_38 X eX3_putIn_5 (c_X3_breadth _ G b N w k hk wd hg lw ga ma ⟨e0, e1, e2, q1, q2, q3, q4, q5⟩ way (by omega)) (by decide) (by omega) e0 rfl (Nat.le_of_ble_eq_true rfl) ?_
  refine r_istore_n X eX3_putIn_8 (Nat.le_of_ble_eq_true rfl) (L2 := [some (.ref (b + k)), some (.ref (b + ks)), some (.int (nI (br way wd hg))), none, none, none, none, none]) rfl ?_
  refine r_iconst X eX3_putIn_9 (nI 0) (by decide) ?_
  refine r_istore_n X eX3_putIn_10 (Nat.le_of_ble_eq_true rfl) (L2 := [some (.ref (b + k)), some (.ref (b + ks)), some (.int (nI (br way wd hg))), some (.int (nI 0)), none, none, none, none]) rfl ?_
  have lp1 : ∀ (fu : Nat) (y : Nat) (A M : Nat → Int32) (w1 : Wd), (y ≤ li way wd hg) → (AddI way ga s (midS s (br way wd hg) (vg way ga)) (li way wd hg) (br way wd hg) y (br way wd hg) A) → (AddI way ma s (fun _ => 0) (li way wd hg) (br way wd hg) y (br way wd hg) M) → (w1 k = .inr (3, [.int (nI wd), .int (nI hg), .int (nI lw), .ref (b + (k + 1)), .ref (b + (k + 2))])) → (w1 (k + 1) = aI G 64 A) → (w1 (k + 2) = aI G 64 M) → (w1 ks = .inr (4, [.int (nI way), .int tot, .ref (b + (ks + 1)), .ref (b + (ks + 2)), .ref (b + (ks + 3))])) → (w1 (ks + 1) = aI G 8 pl) → (w1 (ks + 2) = aI G 64 ce) → (w1 (ks + 3) = aI G 64 go) → (∀ j, (j < k ∨ k + 3 ≤ j) → w1 j = w j) → li way wd hg - y < fu → V κ G b (N, 0, 0) w1 11 [some (.ref (b + k)), some (.ref (b + ks)), some (.int (nI (br way wd hg))), some (.int (nI y)), none, none, none, none] [] := by
    intro fu
    induction fu with
    | zero => intro y A M w1 hy hA hM e0_w1 e1_w1 e2_w1 f0_w1 f1_w1 f2_w1 f3_w1 fr_w1 hm; exact absurd hm (Nat.not_lt_zero _)
    | succ fu ih1 =>
      intro y A M w1 hy hA hM e0_w1 e1_w1 e2_w1 f0_w1 f1_w1 f2_w1 f3_w1 fr_w1 hm
      refine r_iload_n X eX3_putIn_11 rfl ?_
      refine r_aload_n X eX3_putIn_12 rfl ?_
      refine r_aload_n X eX3_putIn_13 rfl ?_
      refine gf_X3_66 X eX3_putIn_14 (by omega) f0_w1 ?_
      refine cp_X3_71 X eX3_putIn_17 (c_X3_lines _ G b N w1 k hk wd hg lw A M ⟨e0_w1, e1_w1, e2_w1, q1, q2, q3, q4, q5⟩ way (by omega)) (by decide) (by omega) e0_w1 rfl (Nat.le_of_ble_eq_true rfl) ?_
      refine r_icmp_ge (tgt := 140) X eX3_putIn_20 (by decide) (nI_toInt (by omega)) (nI_toInt (by omega)) (fun c_2 => ?_) (fun c_2 => ?_)
      ·
        refine r_aload_n X eX3_putIn_140 rfl ?_
        refine r_aload_n X eX3_putIn_141 rfl ?_
        refine gf_X3_66 X eX3_putIn_142 (by omega) f0_w1 ?_
        refine r_iconst X eX3_putIn_145 (nI 1) (by decide) ?_
        refine cv_X3_81 X eX3_putIn_146 (c_X3_broaden_p _ G b N w1 k hk wd hg lw A M ⟨e0_w1, e1_w1, e2_w1, q1, q2, q3, q4, q5⟩ way hw hb) (by decide) (by omega) e0_w1 rfl (Nat.le_of_ble_eq_true rfl) (fun w3 hp3 => ?_)
        obtain ⟨⟨x0_3, x1_3, x2_3, t1, t2, t3, t4, t5⟩, g3⟩ := hp3
        have f0_w3 := (g3 ks (by omega)).trans f0_w1
        have f1_w3 := (g3 (ks + 1) (by omega)).trans f1_w1
        have f2_w3 := (g3 (ks + 2) (by omega)).trans f2_w1
        have f3_w3 := (g3 (ks + 3) (by omega)).trans f3_w1
        have m4_w3 : w3 k = .inr (3, [.int (nI (wd + (1 - way))), .int (nI (hg + way)), .int (nI lw), .ref (b + (k + 1)), .ref (b + (k + 2))]) := x0_3
        have m5_w3 : w3 (k + 1) = aI G 64 A := x1_3
        have m6_w3 : w3 (k + 2) = aI G 64 M := x2_3
        have fr_w3 : ∀ j, (j < k ∨ k + 3 ≤ j) → w3 j = w j := fun j hj => (g3 j (by omega)).trans (fr_w1 j hj)
        exact ret _ _ _ _ eX3_putIn_149 (⟨A, M, ⟨m4_w3, m5_w3, m6_w3, t1, t2, t3, t4, t5⟩, fun l p h1 h2 => ⟨AddI_end (by omega) hA l p h1 h2, AddI_end (by omega) hM l p h1 h2⟩, fr_w3⟩)
      ·
        have hsy := (hpl y (by omega)).2
        refine r_aload_n X eX3_putIn_23 rfl ?_
        refine gf_X3_74 X eX3_putIn_24 (by omega) f0_w1 ?_
        refine r_iload_n X eX3_putIn_27 rfl ?_
        refine r_iald X eX3_putIn_28 (by omega) f1_w1 (by omega) (by decide) ?_
        refine r_top (y := nI (s y)) (hpl y (by omega)).1 ?_
        refine r_istore X eX3_putIn_29 (Nat.le_of_ble_eq_true rfl) (L2 := [some (.ref (b + k)), some (.ref (b + ks)), some (.int (nI (br way wd hg))), some (.int (nI y)), some (.int (nI (s y))), none, none, none]) rfl ?_
        refine r_iload X eX3_putIn_31 rfl ?_
        refine r_iconst X eX3_putIn_33 (nI 1) (by decide) ?_
        refine r_iadd X eX3_putIn_34 (nI (s y + 1)) (addN (by omega)) ?_
        refine r_iload_n X eX3_putIn_35 rfl ?_
        refine r_iconst X eX3_putIn_36 (nI 1) (by decide) ?_
        refine r_isub X eX3_putIn_37 (nI ((br way wd hg) - 1)) (pk_sub (by omega)) ?_
        refine mn_X3_42 X eX3_putIn_38 rfl (Nat.le_of_ble_eq_true rfl) (nI (min (s y + 1) ((br way wd hg) - 1))) (minN (by omega) (by omega)) ?_
        refine r_istore X eX3_putIn_41 (Nat.le_of_ble_eq_true rfl) (L2 := [some (.ref (b + k)), some (.ref (b + ks)), some (.int (nI (br way wd hg))), some (.int (nI y)), some (.int (nI (s y))), some (.int (nI (min (s y + 1) ((br way wd hg) - 1)))), none, none]) rfl ?_
        refine r_aload_n X eX3_putIn_43 rfl ?_
        refine r_aload_n X eX3_putIn_44 rfl ?_
        refine gf_X3_66 X eX3_putIn_45 (by omega) f0_w1 ?_
        refine r_iload_n X eX3_putIn_48 rfl ?_
        refine r_iload X eX3_putIn_49 rfl ?_
        refine cp_X3_60 X eX3_putIn_51 (c_X3_greyAt _ G b N w1 k hk wd hg lw A M ⟨e0_w1, e1_w1, e2_w1, q1, q2, q3, q4, q5⟩ way y (s y) hw (by omega) (by omega)) (by decide) (by omega) e0_w1 rfl (Nat.le_of_ble_eq_true rfl) ?_
        refine r_top (y := vg way ga y (s y)) (AddI_old (by omega) hsy (by omega) hA) ?_
        refine r_aload_n X eX3_putIn_54 rfl ?_
        refine r_aload_n X eX3_putIn_55 rfl ?_
        refine gf_X3_66 X eX3_putIn_56 (by omega) f0_w1 ?_
        refine r_iload_n X eX3_putIn_59 rfl ?_
        refine r_iload X eX3_putIn_60 rfl ?_
        refine cp_X3_60 X eX3_putIn_62 (c_X3_greyAt _ G b N w1 k hk wd hg lw A M ⟨e0_w1, e1_w1, e2_w1, q1, q2, q3, q4, q5⟩ way y (min (s y + 1) (br way wd hg - 1)) hw (by omega) (by omega)) (by decide) (by omega) e0_w1 rfl (Nat.le_of_ble_eq_true rfl) ?_
        refine r_top (y := vg way ga y (min (s y + 1) (br way wd hg - 1))) (AddI_old (by omega) (by omega) (by omega) hA) ?_
        refine r_iadd X eX3_putIn_65 ((vg way ga y (s y)) + (vg way ga y (min (s y + 1) (br way wd hg - 1)))) rfl ?_
        refine r_iconst X eX3_putIn_66 ((2 : Int32)) (by decide) ?_
        refine r_idiv X eX3_putIn_67 (by decide) (midS s (br way wd hg) (vg way ga) y) rfl ?_
        refine r_istore X eX3_putIn_68 (Nat.le_of_ble_eq_true rfl) (L2 := [some (.ref (b + k)), some (.ref (b + ks)), some (.int (nI (br way wd hg))), some (.int (nI y)), some (.int (nI (s y))), some (.int (nI (min (s y + 1) ((br way wd hg) - 1)))), some (.int (midS s (br way wd hg) (vg way ga) y)), none]) rfl ?_
        refine r_iload_n X eX3_putIn_70 rfl ?_
        refine r_istore X eX3_putIn_71 (Nat.le_of_ble_eq_true rfl) (L2 := [some (.ref (b + k)), some (.ref (b + ks)), some (.int (nI (br way wd hg))), some (.int (nI y)), some (.int (nI (s y))), some (.int (nI (min (s y + 1) ((br way wd hg) - 1)))), some (.int (midS s (br way wd hg) (vg way ga) y)), some (.int (nI (br way wd hg)))]) rfl ?_
        have lp7 : ∀ (fu : Nat) (p : Nat) (A2 M2 : Nat → Int32) (w7 : Wd), (s y + 1 ≤ p) → (p ≤ br way wd hg) → (AddI way ga s (midS s (br way wd hg) (vg way ga)) (li way wd hg) (br way wd hg) y p A2) → (AddI way ma s (fun _ => 0) (li way wd hg) (br way wd hg) y p M2) → (w7 k = .inr (3, [.int (nI wd), .int (nI hg), .int (nI lw), .ref (b + (k + 1)), .ref (b + (k + 2))])) → (w7 (k + 1) = aI G 64 A2) → (w7 (k + 2) = aI G 64 M2) → (w7 ks = .inr (4, [.int (nI way), .int tot, .ref (b + (ks + 1)), .ref (b + (ks + 2)), .ref (b + (ks + 3))])) → (w7 (ks + 1) = aI G 8 pl) → (w7 (ks + 2) = aI G 64 ce) → (w7 (ks + 3) = aI G 64 go) → (∀ j, (j < k ∨ k + 3 ≤ j) → w7 j = w j) → p < fu → V κ G b (N, 0, 0) w7 73 [some (.ref (b + k)), some (.ref (b + ks)), some (.int (nI (br way wd hg))), some (.int (nI y)), some (.int (nI (s y))), some (.int (nI (min (s y + 1) ((br way wd hg) - 1)))), some (.int (midS s (br way wd hg) (vg way ga) y)), some (.int (nI p))] [] := by
          intro fu
          induction fu with
          | zero => intro p A2 M2 w7 hp1 hp2 hA2 hM2 e0_w7 e1_w7 e2_w7 f0_w7 f1_w7 f2_w7 f3_w7 fr_w7 hm; exact absurd hm (Nat.not_lt_zero _)
          | succ fu ih7 =>
            intro p A2 M2 w7 hp1 hp2 hA2 hM2 e0_w7 e1_w7 e2_w7 f0_w7 f1_w7 f2_w7 f3_w7 fr_w7 hm
            refine r_iload X eX3_putIn_73 rfl ?_
            refine r_iload X eX3_putIn_75 rfl ?_
            refine r_iconst X eX3_putIn_77 (nI 1) (by decide) ?_
            refine r_iadd X eX3_putIn_78 (nI (s y + 1)) (addN (by omega)) ?_
            refine r_icmp_le (tgt := 103) X eX3_putIn_79 (by decide) (nI_toInt (by omega)) (nI_toInt (by omega)) (fun c_8 => ?_) (fun c_8 => ?_)
            ·
              refine r_aload_n X eX3_putIn_103 rfl ?_
              refine gf_X3_66 X eX3_putIn_104 (by omega) f0_w7 ?_
              refine r_iload_n X eX3_putIn_107 rfl ?_
              refine r_iload X eX3_putIn_108 rfl ?_
              refine r_iconst X eX3_putIn_110 (nI 1) (by decide) ?_
              refine r_iadd X eX3_putIn_111 (nI (s y + 1)) (addN (by omega)) ?_
              refine cp_X3_28 X eX3_putIn_112 (c_X3_index _ G b N w7 way y (s y + 1) (by omega) (by omega) (by omega)) (by decide) rfl (Nat.le_of_ble_eq_true rfl) ?_
              refine r_istore X eX3_putIn_115 (Nat.le_of_ble_eq_true rfl) (L2 := [some (.ref (b + k)), some (.ref (b + ks)), some (.int (nI (br way wd hg))), some (.int (nI y)), some (.int (nI (s y))), some (.int (nI (min (s y + 1) ((br way wd hg) - 1)))), some (.int (midS s (br way wd hg) (vg way ga) y)), some (.int (nI (ix way y (s y + 1))))]) rfl ?_
              refine r_aload_n X eX3_putIn_117 rfl ?_
              refine gf_X3_18 X eX3_putIn_118 (by omega) e0_w7 ?_
              refine r_iload X eX3_putIn_121 rfl ?_
              refine r_iload X eX3_putIn_123 rfl ?_
              refine r_iast X eX3_putIn_125 (by omega) e1_w7 (ix_lt (by omega) (by omega)) (by decide) (fun w9 n9_w9 uu9 => ?_)
              have e0_w9 := (uu9 k (by omega)).trans e0_w7
              have e2_w9 := (uu9 (k + 2) (by omega)).trans e2_w7
              have f0_w9 := (uu9 ks (by omega)).trans f0_w7
              have f1_w9 := (uu9 (ks + 1) (by omega)).trans f1_w7
              have f2_w9 := (uu9 (ks + 2) (by omega)).trans f2_w7
              have f3_w9 := (uu9 (ks + 3) (by omega)).trans f3_w7
              have fr_w9 : ∀ j, (j < k ∨ k + 3 ≤ j) → w9 j = w j := fun j hj => (uu9 j (by omega)).trans (fr_w7 j hj)
              refine r_aload_n X eX3_putIn_126 rfl ?_
              refine gf_X3_22 X eX3_putIn_127 (by omega) e0_w9 ?_
              refine r_iload X eX3_putIn_130 rfl ?_
              refine r_iconst X eX3_putIn_132 ((0 : Int32)) (by decide) ?_
              refine r_iast X eX3_putIn_133 (by omega) e2_w9 (ix_lt (by omega) (by omega)) (by decide) (fun w10 n10_w10 uu10 => ?_)
              have e0_w10 := (uu10 k (by omega)).trans e0_w9
              have n9_w10 := (uu10 (k + 1) (by omega)).trans n9_w9
              have f0_w10 := (uu10 ks (by omega)).trans f0_w9
              have f1_w10 := (uu10 (ks + 1) (by omega)).trans f1_w9
              have f2_w10 := (uu10 (ks + 2) (by omega)).trans f2_w9
              have f3_w10 := (uu10 (ks + 3) (by omega)).trans f3_w9
              have fr_w10 : ∀ j, (j < k ∨ k + 3 ≤ j) → w10 j = w j := fun j hj => (uu10 j (by omega)).trans (fr_w9 j hj)
              refine r_iinc X eX3_putIn_134 rfl (nI (y + 1)) (inc_nI _) (L2 := [some (.ref (b + k)), some (.ref (b + ks)), some (.int (nI (br way wd hg))), some (.int (nI (y + 1))), some (.int (nI (s y))), some (.int (nI (min (s y + 1) ((br way wd hg) - 1)))), some (.int (midS s (br way wd hg) (vg way ga) y)), some (.int (nI (ix way y (s y + 1))))]) rfl ?_
              refine r_goto (tgt := 11) X eX3_putIn_137 (by decide) ?_
              refine r_fg 4 (L2 := [some (.ref (b + k)), some (.ref (b + ks)), some (.int (nI (br way wd hg))), some (.int (nI (y + 1))), none, some (.int (nI (min (s y + 1) ((br way wd hg) - 1)))), some (.int (midS s (br way wd hg) (vg way ga) y)), some (.int (nI (ix way y (s y + 1))))]) rfl ?_
              refine r_fg 5 (L2 := [some (.ref (b + k)), some (.ref (b + ks)), some (.int (nI (br way wd hg))), some (.int (nI (y + 1))), none, none, some (.int (midS s (br way wd hg) (vg way ga) y)), some (.int (nI (ix way y (s y + 1))))]) rfl ?_
              refine r_fg 6 (L2 := [some (.ref (b + k)), some (.ref (b + ks)), some (.int (nI (br way wd hg))), some (.int (nI (y + 1))), none, none, none, some (.int (nI (ix way y (s y + 1))))]) rfl ?_
              refine r_fg 7 (L2 := [some (.ref (b + k)), some (.ref (b + ks)), some (.int (nI (br way wd hg))), some (.int (nI (y + 1))), none, none, none, none]) rfl ?_
              exact ih1 (y + 1) (upd A2 (ix way y (s y + 1)) (midS s (br way wd hg) (vg way ga) y)) (upd M2 (ix way y (s y + 1)) ((0 : Int32))) w10 (by omega) (AddI_out (by omega) (by omega) (by omega) hsy (by omega) rfl hA2) (AddI_out (by omega) (by omega) (by omega) hsy (by omega) rfl hM2) e0_w10 n9_w10 n10_w10 f0_w10 f1_w10 f2_w10 f3_w10 fr_w10 (by omega)
            ·
              refine r_aload_n X eX3_putIn_82 rfl ?_
              refine r_aload_n X eX3_putIn_83 rfl ?_
              refine gf_X3_66 X eX3_putIn_84 (by omega) f0_w7 ?_
              refine r_iload_n X eX3_putIn_87 rfl ?_
              refine r_iload X eX3_putIn_88 rfl ?_
              refine r_iconst X eX3_putIn_90 (nI 1) (by decide) ?_
              refine r_isub X eX3_putIn_91 (nI (p - 1)) (pk_sub (by omega)) ?_
              refine r_iload X eX3_putIn_92 rfl ?_
              refine cv_X3_77 X eX3_putIn_94 (c_X3_moveDot _ G b N w7 k hk wd hg lw A2 M2 ⟨e0_w7, e1_w7, e2_w7, q1, q2, q3, q4, q5⟩ way y (p - 1) p hw (by omega) (by omega) (by omega)) (by decide) (by omega) e0_w7 rfl (Nat.le_of_ble_eq_true rfl) (fun w11 hp11 => ?_)
              obtain ⟨⟨x0_11, x1_11, x2_11, -, -, -, -, -⟩, g11⟩ := hp11
              have f0_w11 := (g11 ks (by omega)).trans f0_w7
              have f1_w11 := (g11 (ks + 1) (by omega)).trans f1_w7
              have f2_w11 := (g11 (ks + 2) (by omega)).trans f2_w7
              have f3_w11 := (g11 (ks + 3) (by omega)).trans f3_w7
              have m12_w11 : w11 k = .inr (3, [.int (nI wd), .int (nI hg), .int (nI lw), .ref (b + (k + 1)), .ref (b + (k + 2))]) := x0_11
              have m13_w11 : w11 (k + 1) = aI G 64 (upd A2 (ix way y p) (A2 (ix way y (p - 1)))) := x1_11
              have m14_w11 : w11 (k + 2) = aI G 64 (upd M2 (ix way y p) (M2 (ix way y (p - 1)))) := x2_11
              have fr_w11 : ∀ j, (j < k ∨ k + 3 ≤ j) → w11 j = w j := fun j hj => (g11 j (by omega)).trans (fr_w7 j hj)
              refine r_iinc X eX3_putIn_97 rfl (nI (p - 1)) ((dec_nI _).trans (nP_pos (by omega))) (L2 := [some (.ref (b + k)), some (.ref (b + ks)), some (.int (nI (br way wd hg))), some (.int (nI y)), some (.int (nI (s y))), some (.int (nI (min (s y + 1) ((br way wd hg) - 1)))), some (.int (midS s (br way wd hg) (vg way ga) y)), some (.int (nI (p - 1)))]) rfl ?_
              refine r_goto (tgt := 73) X eX3_putIn_100 (by decide) ?_
              exact ih7 (p - 1) (upd A2 (ix way y p) (A2 (ix way y (p - 1)))) (upd M2 (ix way y p) (M2 (ix way y (p - 1)))) w11 (by omega) (by omega) (AddI_st (by omega) (by omega) (by omega) (by omega) (by omega) hA2) (AddI_st (by omega) (by omega) (by omega) (by omega) (by omega) hM2) m12_w11 m13_w11 m14_w11 f0_w11 f1_w11 f2_w11 f3_w11 fr_w11 (by omega)
        exact lp7 _ (br way wd hg) A M w1 (by omega) (by omega) hA hM e0_w1 e1_w1 e2_w1 f0_w1 f1_w1 f2_w1 f3_w1 fr_w1 (Nat.lt_succ_self _)
  exact lp1 _ 0 ga ma w (by omega) AddI_0 AddI_0 e0 e1 e2 f0 f1 f2 f3 fr_w (Nat.lt_succ_self _)
set_option maxHeartbeats 4000000 in
set_option maxRecDepth 100000 in
theorem c_X3_blank (l : Launch) (G : Gs) (b N : Nat) (w : Wd) (k : Nat) (hk : k + 3 ≤ N) (wd hg lw : Nat) (ga ma : Nat → Int32) (hp : isPic G b w k wd hg lw ga ma) (nw nh : Nat) (h1 : 2 ≤ nw) (h2 : nw ≤ 8) (h3 : 2 ≤ nh) (h4 : nh ≤ 8) : CV l yX3_blank cX3_blank 4 0 G b N w [.ref (b + k), .int (nI nw), .int (nI nh)] (fun w2 => ∃ ga2 ma2, isPic G b w2 k nw nh lw ga2 ma2 ∧ (∀ j, j < 64 → ga2 j = 0 ∧ ma2 j = 0) ∧ ∀ j, (j < k ∨ k + 3 ≤ j) → w2 j = w j) := by
  obtain ⟨e0, e1, e2, q1, q2, q3, q4, q5⟩ := hp
  refine CV_of (L0 := [some (.ref (b + k)), some (.int (nI nw)), some (.int (nI nh)), none]) (by decide) rfl (by simp [Value.category]) rfl (Nat.le_of_ble_eq_true rfl) (fun κ X ret => ?_)
  have fr_w : ∀ j, (j < k ∨ k + 3 ≤ j) → w j = w j := fun _ _ => rfl
  refine r_aload_n X eX3_blank_0 rfl ?_
  refine r_iload_n X eX3_blank_1 rfl ?_
  refine pf_X3_9 X eX3_blank_2 (by omega) e0 (fun w1 n1_w1 uu1 => ?_)
  have e1_w1 := (uu1 (k + 1) (by omega)).trans e1
  have e2_w1 := (uu1 (k + 2) (by omega)).trans e2
  have fr_w1 : ∀ j, (j < k ∨ k + 3 ≤ j) → w1 j = w j := fun j hj => (uu1 j (by omega)).trans (fr_w j hj)
  refine r_aload_n X eX3_blank_5 rfl ?_
  refine r_iload_n X eX3_blank_6 rfl ?_
  refine pf_X3_15 X eX3_blank_7 (by omega) n1_w1 (fun w2 n2_w2 uu2 => ?_)
  have e1_w2 := (uu2 (k + 1) (by omega)).trans e1_w1
  have e2_w2 := (uu2 (k + 2) (by omega)).trans e2_w1
  have fr_w2 : ∀ j, (j < k ∨ k + 3 ≤ j) → w2 j = w j := fun j hj => (uu2 j (by omega)).trans (fr_w1 j hj)
  refine r_iconst X eX3_blank_10 (nI 0) (by decide) ?_
  refine r_istore_n X eX3_blank_11 (Nat.le_of_ble_eq_true rfl) (L2 := [some (.ref (b + k)), some (.int (nI nw)), some (.int (nI nh)), some (.int (nI 0))]) rfl ?_
  have lp3 : ∀ (fu : Nat) (i : Nat) (A M : Nat → Int32) (w3 : Wd), (i ≤ 64) → (∀ j, j < i → A j = 0 ∧ M j = 0) → (w3 k = .inr (3, [.int (nI nw), .int (nI nh), .int (nI lw), .ref (b + (k + 1)), .ref (b + (k + 2))])) → (w3 (k + 1) = aI G 64 A) → (w3 (k + 2) = aI G 64 M) → (∀ j, (j < k ∨ k + 3 ≤ j) → w3 j = w j) → 64 - i < fu → V κ G b (N, 0, 0) w3 12 [some (.ref (b + k)), some (.int (nI nw)), some (.int (nI nh)), some (.int (nI i))] [] := by
    intro fu
    induction fu with
    | zero => intro i A M w3 hi hz n2_w3 e1_w3 e2_w3 fr_w3 hm; exact absurd hm (Nat.not_lt_zero _)
    | succ fu ih3 =>
      intro i A M w3 hi hz n2_w3 e1_w3 e2_w3 fr_w3 hm
      refine r_iload_n X eX3_blank_12 rfl ?_
      refine r_aload_n X eX3_blank_13 rfl ?_
      refine gf_X3_18 X eX3_blank_14 (by omega) n2_w3 ?_
      refine r_alen X eX3_blank_17 (by omega) e1_w3 ?_
      refine r_icmp_ge (tgt := 41) X eX3_blank_18 (by decide) (nI_toInt (by omega)) (nI_toInt (by omega)) (fun c_4 => ?_) (fun c_4 => ?_)
      ·
        exact ret _ _ _ _ eX3_blank_41 (⟨A, M, ⟨n2_w3, e1_w3, e2_w3, h1, h2, h3, h4, q5⟩, fun j hj => hz j (by omega), fr_w3⟩)
      ·
        refine r_aload_n X eX3_blank_21 rfl ?_
        refine gf_X3_18 X eX3_blank_22 (by omega) n2_w3 ?_
        refine r_iload_n X eX3_blank_25 rfl ?_
        refine r_iconst X eX3_blank_26 ((0 : Int32)) (by decide) ?_
        refine r_iast X eX3_blank_27 (by omega) e1_w3 (by omega) (by decide) (fun w5 n5_w5 uu5 => ?_)
        have n2_w5 := (uu5 k (by omega)).trans n2_w3
        have e2_w5 := (uu5 (k + 2) (by omega)).trans e2_w3
        have fr_w5 : ∀ j, (j < k ∨ k + 3 ≤ j) → w5 j = w j := fun j hj => (uu5 j (by omega)).trans (fr_w3 j hj)
        refine r_aload_n X eX3_blank_28 rfl ?_
        refine gf_X3_22 X eX3_blank_29 (by omega) n2_w5 ?_
        refine r_iload_n X eX3_blank_32 rfl ?_
        refine r_iconst X eX3_blank_33 ((0 : Int32)) (by decide) ?_
        refine r_iast X eX3_blank_34 (by omega) e2_w5 (by omega) (by decide) (fun w6 n6_w6 uu6 => ?_)
        have n2_w6 := (uu6 k (by omega)).trans n2_w5
        have n5_w6 := (uu6 (k + 1) (by omega)).trans n5_w5
        have fr_w6 : ∀ j, (j < k ∨ k + 3 ≤ j) → w6 j = w j := fun j hj => (uu6 j (by omega)).trans (fr_w5 j hj)
        refine r_iinc X eX3_blank_35 rfl (nI (i + 1)) (inc_nI _) (L2 := [some (.ref (b + k)), some (.int (nI nw)), some (.int (nI nh)), some (.int (nI (i + 1)))]) rfl ?_
        refine r_goto (tgt := 12) X eX3_blank_38 (by decide) ?_
        exact ih3 (i + 1) (upd A i ((0 : Int32))) (upd M i ((0 : Int32))) w6 (by omega) (fun j hj => upd2_0 hz hj) n2_w6 n5_w6 n6_w6 fr_w6 (by omega)
  exact lp3 _ 0 ga ma w2 (by omega) (fun j hj => absurd hj (by omega)) n2_w2 e1_w2 e2_w2 fr_w2 (Nat.lt_succ_self _)
set_option maxHeartbeats 4000000 in
set_option maxRecDepth 100000 in
theorem c_X3_copyFrom (l : Launch) (G : Gs) (b N : Nat) (w : Wd) (k : Nat) (hk : k + 3 ≤ N) (wd hg lw : Nat) (ga ma : Nat → Int32) (hp : isPic G b w k wd hg lw ga ma) (k2 : Nat) (hk2 : k2 + 3 ≤ N) (hdj : k2 + 3 ≤ k ∨ k + 3 ≤ k2) (wd2 hg2 lw2 : Nat) (gb mb : Nat → Int32) (hp2 : isPic G b w k2 wd2 hg2 lw2 gb mb) : CV l yX3_copyFrom cX3_copyFrom 3 0 G b N w [.ref (b + k), .ref (b + k2)] (fun w2 => ∃ ga2 ma2, isPic G b w2 k wd2 hg2 lw2 ga2 ma2 ∧ (∀ j, j < 64 → ga2 j = gb j ∧ ma2 j = mb j) ∧ ∀ j, (j < k ∨ k + 3 ≤ j) → w2 j = w j) := by
  obtain ⟨e0, e1, e2, q1, q2, q3, q4, q5⟩ := hp
  obtain ⟨h0, h1, h2, s1, s2, s3, s4, s5⟩ := hp2
  refine CV_of (L0 := [some (.ref (b + k)), some (.ref (b + k2)), none]) (by decide) rfl (by simp [Value.category]) rfl (Nat.le_of_ble_eq_true rfl) (fun κ X ret => ?_)
  have fr_w : ∀ j, (j < k ∨ k + 3 ≤ j) → w j = w j := fun _ _ => rfl
  refine r_aload_n X eX3_copyFrom_0 rfl ?_
  refine r_aload_n X eX3_copyFrom_1 rfl ?_
  refine gf_X3_9 X eX3_copyFrom_2 (by omega) h0 ?_
  refine pf_X3_9 X eX3_copyFrom_5 (by omega) e0 (fun w1 n1_w1 uu1 => ?_)
  have e1_w1 := (uu1 (k + 1) (by omega)).trans e1
  have e2_w1 := (uu1 (k + 2) (by omega)).trans e2
  have h0_w1 := (uu1 k2 (by omega)).trans h0
  have h1_w1 := (uu1 (k2 + 1) (by omega)).trans h1
  have h2_w1 := (uu1 (k2 + 2) (by omega)).trans h2
  have fr_w1 : ∀ j, (j < k ∨ k + 3 ≤ j) → w1 j = w j := fun j hj => (uu1 j (by omega)).trans (fr_w j hj)
  refine r_aload_n X eX3_copyFrom_8 rfl ?_
  refine r_aload_n X eX3_copyFrom_9 rfl ?_
  refine gf_X3_15 X eX3_copyFrom_10 (by omega) h0_w1 ?_
  refine pf_X3_15 X eX3_copyFrom_13 (by omega) n1_w1 (fun w2 n2_w2 uu2 => ?_)
  have e1_w2 := (uu2 (k + 1) (by omega)).trans e1_w1
  have e2_w2 := (uu2 (k + 2) (by omega)).trans e2_w1
  have h0_w2 := (uu2 k2 (by omega)).trans h0_w1
  have h1_w2 := (uu2 (k2 + 1) (by omega)).trans h1_w1
  have h2_w2 := (uu2 (k2 + 2) (by omega)).trans h2_w1
  have fr_w2 : ∀ j, (j < k ∨ k + 3 ≤ j) → w2 j = w j := fun j hj => (uu2 j (by omega)).trans (fr_w1 j hj)
  refine r_aload_n X eX3_copyFrom_16 rfl ?_
  refine r_aload_n X eX3_copyFrom_17 rfl ?_
  refine gf_X3_25 X eX3_copyFrom_18 (by omega) h0_w2 ?_
  refine pf_X3_25 X eX3_copyFrom_21 (by omega) n2_w2 (fun w3 n3_w3 uu3 => ?_)
  have e1_w3 := (uu3 (k + 1) (by omega)).trans e1_w2
  have e2_w3 := (uu3 (k + 2) (by omega)).trans e2_w2
  have h0_w3 := (uu3 k2 (by omega)).trans h0_w2
  have h1_w3 := (uu3 (k2 + 1) (by omega)).trans h1_w2
  have h2_w3 := (uu3 (k2 + 2) (by omega)).trans h2_w2
  have fr_w3 : ∀ j, (j < k ∨ k + 3 ≤ j) → w3 j = w j := fun j hj => (uu3 j (by omega)).trans (fr_w2 j hj)
  refine r_iconst X eX3_copyFrom_24 (nI 0) (by decide) ?_
  refine r_istore_n X eX3_copyFrom_25 (Nat.le_of_ble_eq_true rfl) (L2 := [some (.ref (b + k)), some (.ref (b + k2)), some (.int (nI 0))]) rfl ?_
  have lp4 : ∀ (fu : Nat) (i : Nat) (A M : Nat → Int32) (w4 : Wd), (i ≤ 64) → (∀ j, j < i → A j = gb j ∧ M j = mb j) → (w4 k = .inr (3, [.int (nI wd2), .int (nI hg2), .int (nI lw2), .ref (b + (k + 1)), .ref (b + (k + 2))])) → (w4 (k + 1) = aI G 64 A) → (w4 (k + 2) = aI G 64 M) → (w4 k2 = .inr (3, [.int (nI wd2), .int (nI hg2), .int (nI lw2), .ref (b + (k2 + 1)), .ref (b + (k2 + 2))])) → (w4 (k2 + 1) = aI G 64 gb) → (w4 (k2 + 2) = aI G 64 mb) → (∀ j, (j < k ∨ k + 3 ≤ j) → w4 j = w j) → 64 - i < fu → V κ G b (N, 0, 0) w4 26 [some (.ref (b + k)), some (.ref (b + k2)), some (.int (nI i))] [] := by
    intro fu
    induction fu with
    | zero => intro i A M w4 hi hz n3_w4 e1_w4 e2_w4 h0_w4 h1_w4 h2_w4 fr_w4 hm; exact absurd hm (Nat.not_lt_zero _)
    | succ fu ih4 =>
      intro i A M w4 hi hz n3_w4 e1_w4 e2_w4 h0_w4 h1_w4 h2_w4 fr_w4 hm
      refine r_iload_n X eX3_copyFrom_26 rfl ?_
      refine r_aload_n X eX3_copyFrom_27 rfl ?_
      refine gf_X3_18 X eX3_copyFrom_28 (by omega) n3_w4 ?_
      refine r_alen X eX3_copyFrom_31 (by omega) e1_w4 ?_
      refine r_icmp_ge (tgt := 65) X eX3_copyFrom_32 (by decide) (nI_toInt (by omega)) (nI_toInt (by omega)) (fun c_5 => ?_) (fun c_5 => ?_)
      ·
        exact ret _ _ _ _ eX3_copyFrom_65 (⟨A, M, ⟨n3_w4, e1_w4, e2_w4, s1, s2, s3, s4, s5⟩, fun j hj => hz j (by omega), fr_w4⟩)
      ·
        refine r_aload_n X eX3_copyFrom_35 rfl ?_
        refine gf_X3_18 X eX3_copyFrom_36 (by omega) n3_w4 ?_
        refine r_iload_n X eX3_copyFrom_39 rfl ?_
        refine r_aload_n X eX3_copyFrom_40 rfl ?_
        refine gf_X3_18 X eX3_copyFrom_41 (by omega) h0_w4 ?_
        refine r_iload_n X eX3_copyFrom_44 rfl ?_
        refine r_iald X eX3_copyFrom_45 (by omega) h1_w4 (by omega) (by decide) ?_
        refine r_iast X eX3_copyFrom_46 (by omega) e1_w4 (by omega) (by decide) (fun w6 n6_w6 uu6 => ?_)
        have n3_w6 := (uu6 k (by omega)).trans n3_w4
        have e2_w6 := (uu6 (k + 2) (by omega)).trans e2_w4
        have h0_w6 := (uu6 k2 (by omega)).trans h0_w4
        have h1_w6 := (uu6 (k2 + 1) (by omega)).trans h1_w4
        have h2_w6 := (uu6 (k2 + 2) (by omega)).trans h2_w4
        have fr_w6 : ∀ j, (j < k ∨ k + 3 ≤ j) → w6 j = w j := fun j hj => (uu6 j (by omega)).trans (fr_w4 j hj)
        refine r_aload_n X eX3_copyFrom_47 rfl ?_
        refine gf_X3_22 X eX3_copyFrom_48 (by omega) n3_w6 ?_
        refine r_iload_n X eX3_copyFrom_51 rfl ?_
        refine r_aload_n X eX3_copyFrom_52 rfl ?_
        refine gf_X3_22 X eX3_copyFrom_53 (by omega) h0_w6 ?_
        refine r_iload_n X eX3_copyFrom_56 rfl ?_
        refine r_iald X eX3_copyFrom_57 (by omega) h2_w6 (by omega) (by decide) ?_
        refine r_iast X eX3_copyFrom_58 (by omega) e2_w6 (by omega) (by decide) (fun w7 n7_w7 uu7 => ?_)
        have n3_w7 := (uu7 k (by omega)).trans n3_w6
        have n6_w7 := (uu7 (k + 1) (by omega)).trans n6_w6
        have h0_w7 := (uu7 k2 (by omega)).trans h0_w6
        have h1_w7 := (uu7 (k2 + 1) (by omega)).trans h1_w6
        have h2_w7 := (uu7 (k2 + 2) (by omega)).trans h2_w6
        have fr_w7 : ∀ j, (j < k ∨ k + 3 ≤ j) → w7 j = w j := fun j hj => (uu7 j (by omega)).trans (fr_w6 j hj)
        refine r_iinc X eX3_copyFrom_59 rfl (nI (i + 1)) (inc_nI _) (L2 := [some (.ref (b + k)), some (.ref (b + k2)), some (.int (nI (i + 1)))]) rfl ?_
        refine r_goto (tgt := 26) X eX3_copyFrom_62 (by decide) ?_
        exact ih4 (i + 1) (upd A i (gb i)) (upd M i (mb i)) w7 (by omega) (fun j hj => upd2_c hz hj) n3_w7 n6_w7 n7_w7 h0_w7 h1_w7 h2_w7 fr_w7 (by omega)
  exact lp4 _ 0 ga ma w3 (by omega) (fun j hj => absurd hj (by omega)) n3_w3 e1_w3 e2_w3 h0_w3 h1_w3 h2_w3 fr_w3 (Nat.lt_succ_self _)
