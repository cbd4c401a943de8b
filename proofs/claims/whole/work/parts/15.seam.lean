theorem amx_t2 {F : Nat → Int32} {a i v : Nat} {c : Int32} (hi : i ≠ 0) (e : v = am F a (i - 1) ∧ c = F v) (h : (F (a + i)).toInt < c.toInt) : a + i = am F a i := amx_t hi e.1 (e.2 ▸ h)
theorem amx_f2 {F : Nat → Int32} {a i v : Nat} {c : Int32} (hi : i ≠ 0) (e : v = am F a (i - 1) ∧ c = F v) (h : c.toInt ≤ (F (a + i)).toInt) : v = am F a i := amx_f hi e.1 (e.2 ▸ h)
set_option maxHeartbeats 4000000 in
set_option maxRecDepth 100000 in
theorem c_X4_leastStart (l : Launch) (G : Gs) (b N : Nat) (w : Wd) (ks : Nat) (hks : ks + 4 ≤ N) (way : Nat) (tot : Int32) (pl ce go : Nat → Int32) (hs : isSm G b w ks way tot pl ce go) (nb : Nat) (h0 : 1 ≤ nb) (h8 : nb ≤ 8) : CI l yX4_leastStart cX4_leastStart 4 (some .int) 0 G b N w [.ref (b + ks), .int (nI nb)] (fun r w2 => r = nI (am ce 0 (nb - 1)) ∧ w2 = w) := by
  obtain ⟨f0, f1, f2, f3⟩ := hs
  refine CI_of (L0 := [some (.ref (b + ks)), some (.int (nI nb)), none, none]) (by decide) rfl (by simp [Value.category]) rfl (Nat.le_of_ble_eq_true rfl) rfl (fun κ X ret => ?_)
  refine r_iconst X eX4_leastStart_0 (nI 0) (by decide) ?_
  refine r_istore_n X eX4_leastStart_1 (Nat.le_of_ble_eq_true rfl) (L2 := [some (.ref (b + ks)), some (.int (nI nb)), some (.int (nI 0)), none]) rfl ?_
  refine r_iconst X eX4_leastStart_2 (nI 1) (by decide) ?_
  refine r_istore_n X eX4_leastStart_3 (Nat.le_of_ble_eq_true rfl) (L2 := [some (.ref (b + ks)), some (.int (nI nb)), some (.int (nI 0)), some (.int (nI 1))]) rfl ?_
  have lp1 : ∀ (fu : Nat) (i v : Nat), (i + 1 ≤ nb) → (v = am ce 0 i) → (v ≤ i) → nb - i < fu → V κ G b (N, 0, 0) w 4 [some (.ref (b + ks)), some (.int (nI nb)), some (.int (nI v)), some (.int (nI (i + 1)))] [] := by
    intro fu
    induction fu with
    | zero => intro i v hi hv hvl hm; exact absurd hm (Nat.not_lt_zero _)
    | succ fu ih1 =>
      intro i v hi hv hvl hm
      refine r_iload_n X eX4_leastStart_4 rfl ?_
      refine r_iload_n X eX4_leastStart_5 rfl ?_
      refine r_icmp_ge (tgt := 32) X eX4_leastStart_6 (by decide) (nI_toInt (by omega)) (nI_toInt (by omega)) (fun c_2 => ?_) (fun c_2 => ?_)
      ·
        refine r_iload_n X eX4_leastStart_32 rfl ?_
        exact ret _ _ _ _ _ eX4_leastStart_33 (⟨congrArg nI (by rw [hv]; congr 1; omega), rfl⟩)
      ·
        refine r_aload_n X eX4_leastStart_9 rfl ?_
        refine gf_X4_15 X eX4_leastStart_10 (by omega) f0 ?_
        refine r_iload_n X eX4_leastStart_13 rfl ?_
        refine r_iald X eX4_leastStart_14 (by omega) f2 (by omega) (by decide) ?_
        refine r_aload_n X eX4_leastStart_15 rfl ?_
        refine gf_X4_15 X eX4_leastStart_16 (by omega) f0 ?_
        refine r_iload_n X eX4_leastStart_19 rfl ?_
        refine r_iald X eX4_leastStart_20 (by omega) f2 (by omega) (by decide) ?_
        refine r_icmp_ge (tgt := 26) X eX4_leastStart_21 (by decide) rfl rfl (fun c_3 => ?_) (fun c_3 => ?_)
        ·
          refine r_iinc X eX4_leastStart_26 rfl (nI (i + 2)) (inc_nI _) (L2 := [some (.ref (b + ks)), some (.int (nI nb)), some (.int (nI v)), some (.int (nI (i + 2)))]) rfl ?_
          refine r_goto (tgt := 4) X eX4_leastStart_29 (by decide) ?_
          exact ih1 (i + 1) v  (by omega) (am_f hv c_3) (by omega)  (by omega)
        ·
          refine r_iload_n X eX4_leastStart_24 rfl ?_
          refine r_istore_n X eX4_leastStart_25 (Nat.le_of_ble_eq_true rfl) (L2 := [some (.ref (b + ks)), some (.int (nI nb)), some (.int (nI (i + 1))), some (.int (nI (i + 1)))]) rfl ?_
          refine r_iinc X eX4_leastStart_26 rfl (nI (i + 2)) (inc_nI _) (L2 := [some (.ref (b + ks)), some (.int (nI nb)), some (.int (nI (i + 1))), some (.int (nI (i + 2)))]) rfl ?_
          refine r_goto (tgt := 4) X eX4_leastStart_29 (by decide) ?_
          exact ih1 (i + 1) (i + 1)  (by omega) (am_t hv c_3) (by omega)  (by omega)
  exact lp1 _ 0 0  (by omega) rfl (by omega)  (Nat.lt_succ_self _)
set_option maxHeartbeats 4000000 in
set_option maxRecDepth 100000 in
theorem c_X4_goOnFrom (l : Launch) (G : Gs) (b N : Nat) (w : Wd) (ks : Nat) (hks : ks + 4 ≤ N) (way : Nat) (tot : Int32) (pl ce go : Nat → Int32) (hs : isSm G b w ks way tot pl ce go) (k : Nat) (hk : k + 3 ≤ N) (hdj : ks + 4 ≤ k ∨ k + 3 ≤ ks) (wd hg lw : Nat) (ga ma : Nat → Int32) (hp : isPic G b w k wd hg lw ga ma) (hw : way < 2) (line place : Nat) (hl : line + 1 < li way wd hg) (hpl : place < br way wd hg) (hce : ∀ q, q < br way wd hg → ce ((line + 1) * 8 + q) = stS lw (br way wd hg) (li way wd hg) (vg way ga) (vg way ma) (line + 1) q + Rs (coS lw (br way wd hg) (li way wd hg) (vg way ga) (vg way ma)) (br way wd hg) (li way wd hg) (li way wd hg - 2 - line) q) : CV l yX4_goOnFrom cX4_goOnFrom 10 2 G b N w [.ref (b + ks), .ref (b + k), .int (nI line), .int (nI place)] (fun w2 => ∃ ce2 go2, isSm G b w2 ks way tot pl ce2 go2 ∧ (∀ j, j ≠ line * 8 + place → ce2 j = ce j ∧ go2 j = go j) ∧ ce2 (line * 8 + place) = ce (line * 8 + place) + Rs (coS lw (br way wd hg) (li way wd hg) (vg way ga) (vg way ma)) (br way wd hg) (li way wd hg) (li way wd hg - 1 - line) place ∧ go2 (line * 8 + place) = nI (gN (coS lw (br way wd hg) (li way wd hg) (vg way ga) (vg way ma)) (br way wd hg) (li way wd hg) line place) ∧ ∀ j, (j < ks ∨ ks + 4 ≤ j) → w2 j = w j) := by
  obtain ⟨f0, f1, f2, f3⟩ := hs
  obtain ⟨e0, e1, e2, q1, q2, q3, q4, q5⟩ := hp
  have hbr := br_or way wd hg
  have hli := li_or way wd hg
  refine CV_of (L0 := [some (.ref (b + ks)), some (.ref (b + k)), some (.int (nI line)), some (.int (nI place)), none, none, none, none, none, none]) (by decide) rfl (by simp [Value.category]) rfl (Nat.le_of_ble_eq_true rfl) (fun κ X ret => ?_)
  have fr_w : ∀ j, (j < ks ∨ ks + 4 ≤ j) → w j = w j := fun _ _ => rfl
  refine r_iload_n X eX4_goOnFrom_0 rfl ?_
  refine r_iconst X eX4_goOnFrom_1 (nI 1) (by decide) ?_
  refine r_isub X eX4_goOnFrom_2 (nP place) (subP _) ?_
  refine r_iconst X eX4_goOnFrom_3 (nI 0) (by decide) ?_
  refine mx_X4_52 X eX4_goOnFrom_4 rfl (Nat.le_of_ble_eq_true rfl) (nI (place - 1)) (maxP (by omega)) ?_
  refine r_istore X eX4_goOnFrom_7 (Nat.le_of_ble_eq_true rfl) (L2 := [some (.ref (b + ks)), some (.ref (b + k)), some (.int (nI line)), some (.int (nI place)), some (.int (nI (place - 1))), none, none, none, none, none]) rfl ?_
  refine r_iload_n X eX4_goOnFrom_9 rfl ?_
  refine r_iconst X eX4_goOnFrom_10 (nI 1) (by decide) ?_
  refine r_iadd X eX4_goOnFrom_11 (nI (place + 1)) (addN (by omega)) ?_
  refine r_aload_n X eX4_goOnFrom_12 rfl ?_
  refine r_aload_n X eX4_goOnFrom_13 rfl ?_
  refine gf_X4_21 X eX4_goOnFrom_14 (by omega) f0 ?_
  refine cp_X4_31 X eX4_goOnFrom_17 (c_X3_breadth _ G b N w k hk wd hg lw ga ma ⟨e0, e1, e2, q1, q2, q3, q4, q5⟩ way (by omega)) (by decide) (by omega) e0 rfl (Nat.le_of_ble_eq_true rfl) ?_
  refine r_iconst X eX4_goOnFrom_20 (nI 1) (by decide) ?_
  refine r_isub X eX4_goOnFrom_21 (nI ((br way wd hg) - 1)) (pk_sub (by omega)) ?_
  refine mn_X4_58 X eX4_goOnFrom_22 rfl (Nat.le_of_ble_eq_true rfl) (nI (min (place + 1) ((br way wd hg) - 1))) (minN (by omega) (by omega)) ?_
  refine r_istore X eX4_goOnFrom_25 (Nat.le_of_ble_eq_true rfl) (L2 := [some (.ref (b + ks)), some (.ref (b + k)), some (.int (nI line)), some (.int (nI place)), some (.int (nI (place - 1))), some (.int (nI (min (place + 1) ((br way wd hg) - 1)))), none, none, none, none]) rfl ?_
  refine r_iload X eX4_goOnFrom_27 rfl ?_
  refine r_istore X eX4_goOnFrom_29 (Nat.le_of_ble_eq_true rfl) (L2 := [some (.ref (b + ks)), some (.ref (b + k)), some (.int (nI line)), some (.int (nI place)), some (.int (nI (place - 1))), some (.int (nI (min (place + 1) ((br way wd hg) - 1)))), some (.int (nI (place - 1))), none, none, none]) rfl ?_
  refine r_iconst X eX4_goOnFrom_31 ((0 : Int32)) (by decide) ?_
  refine r_istore X eX4_goOnFrom_32 (Nat.le_of_ble_eq_true rfl) (L2 := [some (.ref (b + ks)), some (.ref (b + k)), some (.int (nI line)), some (.int (nI place)), some (.int (nI (place - 1))), some (.int (nI (min (place + 1) ((br way wd hg) - 1)))), some (.int (nI (place - 1))), some (.int ((0 : Int32))), none, none]) rfl ?_
  refine r_iload X eX4_goOnFrom_34 rfl ?_
  refine r_istore X eX4_goOnFrom_36 (Nat.le_of_ble_eq_true rfl) (L2 := [some (.ref (b + ks)), some (.ref (b + k)), some (.int (nI line)), some (.int (nI place)), some (.int (nI (place - 1))), some (.int (nI (min (place + 1) ((br way wd hg) - 1)))), some (.int (nI (place - 1))), some (.int ((0 : Int32))), some (.int (nI (place - 1))), none]) rfl ?_
  have lp1 : ∀ (fu : Nat) (i v : Nat) (c : Int32), (place - 1 + i ≤ min (place + 1) (br way wd hg - 1) + 1) → (i = 0 ∨ (v = am (fun q => coS lw (br way wd hg) (li way wd hg) (vg way ga) (vg way ma) (line + 1) q place + Rs (coS lw (br way wd hg) (li way wd hg) (vg way ga) (vg way ma)) (br way wd hg) (li way wd hg) (li way wd hg - 2 - line) q) (place - 1) (i - 1) ∧ c = (fun q => coS lw (br way wd hg) (li way wd hg) (vg way ga) (vg way ma) (line + 1) q place + Rs (coS lw (br way wd hg) (li way wd hg) (vg way ga) (vg way ma)) (br way wd hg) (li way wd hg) (li way wd hg - 2 - line) q) v)) → 20 - i < fu → V κ G b (N, 0, 0) w 38 [some (.ref (b + ks)), some (.ref (b + k)), some (.int (nI line)), some (.int (nI place)), some (.int (nI (place - 1))), some (.int (nI (min (place + 1) ((br way wd hg) - 1)))), some (.int (nI v)), some (.int c), some (.int (nI (place - 1 + i))), none] [] := by
    intro fu
    induction fu with
    | zero => intro i v c hi hv hm; exact absurd hm (Nat.not_lt_zero _)
    | succ fu ih1 =>
      intro i v c hi hv hm
      refine r_iload X eX4_goOnFrom_38 rfl ?_
      refine r_iload X eX4_goOnFrom_40 rfl ?_
      refine r_icmp_gt (tgt := 104) X eX4_goOnFrom_42 (by decide) (nI_toInt (by omega)) (nI_toInt (by omega)) (fun c_2 => ?_) (fun c_2 => ?_)
      ·
        have hz := hv.resolve_left (by omega)
        have hgn : v = gN (coS lw (br way wd hg) (li way wd hg) (vg way ga) (vg way ma)) (br way wd hg) (li way wd hg) line place := by rw [gN, if_pos hl, hz.1]; congr 1; omega
        refine r_iload_n X eX4_goOnFrom_104 rfl ?_
        refine r_bipush X eX4_goOnFrom_105 (nI 8) (by decide) ?_
        refine r_imul X eX4_goOnFrom_107 (nI (line * 8)) (pk_mul _ _) ?_
        refine r_iload_n X eX4_goOnFrom_108 rfl ?_
        refine r_iadd X eX4_goOnFrom_109 (nI (line * 8 + place)) (addN rfl) ?_
        refine r_istore X eX4_goOnFrom_110 (Nat.le_of_ble_eq_true rfl) (L2 := [some (.ref (b + ks)), some (.ref (b + k)), some (.int (nI line)), some (.int (nI place)), some (.int (nI (place - 1))), some (.int (nI (min (place + 1) ((br way wd hg) - 1)))), some (.int (nI v)), some (.int c), some (.int (nI (line * 8 + place))), none]) rfl ?_
        refine r_aload_n X eX4_goOnFrom_112 rfl ?_
        refine gf_X4_18 X eX4_goOnFrom_113 (by omega) f0 ?_
        refine r_iload X eX4_goOnFrom_116 rfl ?_
        refine r_iload X eX4_goOnFrom_118 rfl ?_
        refine r_iast X eX4_goOnFrom_120 (by omega) f3 (by omega) (by decide) (fun w3 n3_w3 uu3 => ?_)
        have f0_w3 := (uu3 ks (by omega)).trans f0
        have f1_w3 := (uu3 (ks + 1) (by omega)).trans f1
        have f2_w3 := (uu3 (ks + 2) (by omega)).trans f2
        have e0_w3 := (uu3 k (by omega)).trans e0
        have e1_w3 := (uu3 (k + 1) (by omega)).trans e1
        have e2_w3 := (uu3 (k + 2) (by omega)).trans e2
        have fr_w3 : ∀ j, (j < ks ∨ ks + 4 ≤ j) → w3 j = w j := fun j hj => (uu3 j (by omega)).trans (fr_w j hj)
        refine r_aload_n X eX4_goOnFrom_121 rfl ?_
        refine gf_X4_15 X eX4_goOnFrom_122 (by omega) f0_w3 ?_
        refine r_iload X eX4_goOnFrom_125 rfl ?_
        refine r_dup2 X eX4_goOnFrom_127 rfl rfl ?_
        refine r_iald X eX4_goOnFrom_128 (by omega) f2_w3 (by omega) (by decide) ?_
        refine r_iload X eX4_goOnFrom_129 rfl ?_
        refine r_iadd X eX4_goOnFrom_131 ((ce (line * 8 + place)) + c) rfl ?_
        refine r_iast X eX4_goOnFrom_132 (by omega) f2_w3 (by omega) (by decide) (fun w4 n4_w4 uu4 => ?_)
        have f0_w4 := (uu4 ks (by omega)).trans f0_w3
        have f1_w4 := (uu4 (ks + 1) (by omega)).trans f1_w3
        have n3_w4 := (uu4 (ks + 3) (by omega)).trans n3_w3
        have e0_w4 := (uu4 k (by omega)).trans e0_w3
        have e1_w4 := (uu4 (k + 1) (by omega)).trans e1_w3
        have e2_w4 := (uu4 (k + 2) (by omega)).trans e2_w3
        have fr_w4 : ∀ j, (j < ks ∨ ks + 4 ≤ j) → w4 j = w j := fun j hj => (uu4 j (by omega)).trans (fr_w3 j hj)
        exact ret _ _ _ _ eX4_goOnFrom_133 (⟨_, _, ⟨f0_w4, f1_w4, n4_w4, n3_w4⟩, fun j hj => ⟨upd_ne hj, upd_ne hj⟩, by rw [upd_self, Rs_step hl, ← hgn, hz.2], by rw [upd_self, hgn], fr_w4⟩)
      ·
        refine r_aload_n X eX4_goOnFrom_45 rfl ?_
        refine r_aload_n X eX4_goOnFrom_46 rfl ?_
        refine gf_X4_21 X eX4_goOnFrom_47 (by omega) f0 ?_
        refine r_iload_n X eX4_goOnFrom_50 rfl ?_
        refine r_iconst X eX4_goOnFrom_51 (nI 1) (by decide) ?_
        refine r_iadd X eX4_goOnFrom_52 (nI (line + 1)) (addN (by omega)) ?_
        refine r_iload X eX4_goOnFrom_53 rfl ?_
        refine r_iload_n X eX4_goOnFrom_55 rfl ?_
        refine cp_X4_61 X eX4_goOnFrom_56 (c_X3_turningCost _ G b N w k hk wd hg lw ga ma ⟨e0, e1, e2, q1, q2, q3, q4, q5⟩ way (line + 1) (place - 1 + i) hw (by omega) (by omega) place (by omega)) (by decide) (by omega) e0 rfl (Nat.le_of_ble_eq_true rfl) ?_
        refine r_aload_n X eX4_goOnFrom_59 rfl ?_
        refine gf_X4_15 X eX4_goOnFrom_60 (by omega) f0 ?_
        refine r_iload_n X eX4_goOnFrom_63 rfl ?_
        refine r_iconst X eX4_goOnFrom_64 (nI 1) (by decide) ?_
        refine r_iadd X eX4_goOnFrom_65 (nI (line + 1)) (addN (by omega)) ?_
        refine r_bipush X eX4_goOnFrom_66 (nI 8) (by decide) ?_
        refine r_imul X eX4_goOnFrom_68 (nI ((line + 1) * 8)) (pk_mul _ _) ?_
        refine r_iload X eX4_goOnFrom_69 rfl ?_
        refine r_iadd X eX4_goOnFrom_71 (nI ((line + 1) * 8 + (place - 1 + i))) (addN rfl) ?_
        refine r_iald X eX4_goOnFrom_72 (by omega) f2 (by omega) (by decide) ?_
        refine r_iadd X eX4_goOnFrom_73 ((fun q => coS lw (br way wd hg) (li way wd hg) (vg way ga) (vg way ma) (line + 1) q place + Rs (coS lw (br way wd hg) (li way wd hg) (vg way ga) (vg way ma)) (br way wd hg) (li way wd hg) (li way wd hg - 2 - line) q) (place - 1 + i)) (by rw [hce _ (by omega)]; exact onw) ?_
        refine r_istore X eX4_goOnFrom_74 (Nat.le_of_ble_eq_true rfl) (L2 := [some (.ref (b + ks)), some (.ref (b + k)), some (.int (nI line)), some (.int (nI place)), some (.int (nI (place - 1))), some (.int (nI (min (place + 1) ((br way wd hg) - 1)))), some (.int (nI v)), some (.int c), some (.int (nI (place - 1 + i))), some (.int ((fun q => coS lw (br way wd hg) (li way wd hg) (vg way ga) (vg way ma) (line + 1) q place + Rs (coS lw (br way wd hg) (li way wd hg) (vg way ga) (vg way ma)) (br way wd hg) (li way wd hg) (li way wd hg - 2 - line) q) (place - 1 + i)))]) rfl ?_
        refine r_iload X eX4_goOnFrom_76 rfl ?_
        refine r_iload X eX4_goOnFrom_78 rfl ?_
        refine r_icmp_eq (tgt := 90) X eX4_goOnFrom_80 (by decide) (nI_toInt (by omega)) (nI_toInt (by omega)) (fun c_5 => ?_) (fun c_5 => ?_)
        ·
          refine r_iload X eX4_goOnFrom_90 rfl ?_
          refine r_istore X eX4_goOnFrom_92 (Nat.le_of_ble_eq_true rfl) (L2 := [some (.ref (b + ks)), some (.ref (b + k)), some (.int (nI line)), some (.int (nI place)), some (.int (nI (place - 1))), some (.int (nI (min (place + 1) ((br way wd hg) - 1)))), some (.int (nI (place - 1 + i))), some (.int c), some (.int (nI (place - 1 + i))), some (.int ((fun q => coS lw (br way wd hg) (li way wd hg) (vg way ga) (vg way ma) (line + 1) q place + Rs (coS lw (br way wd hg) (li way wd hg) (vg way ga) (vg way ma)) (br way wd hg) (li way wd hg) (li way wd hg - 2 - line) q) (place - 1 + i)))]) rfl ?_
          refine r_iload X eX4_goOnFrom_94 rfl ?_
          refine r_istore X eX4_goOnFrom_96 (Nat.le_of_ble_eq_true rfl) (L2 := [some (.ref (b + ks)), some (.ref (b + k)), some (.int (nI line)), some (.int (nI place)), some (.int (nI (place - 1))), some (.int (nI (min (place + 1) ((br way wd hg) - 1)))), some (.int (nI (place - 1 + i))), some (.int ((fun q => coS lw (br way wd hg) (li way wd hg) (vg way ga) (vg way ma) (line + 1) q place + Rs (coS lw (br way wd hg) (li way wd hg) (vg way ga) (vg way ma)) (br way wd hg) (li way wd hg) (li way wd hg - 2 - line) q) (place - 1 + i))), some (.int (nI (place - 1 + i))), some (.int ((fun q => coS lw (br way wd hg) (li way wd hg) (vg way ga) (vg way ma) (line + 1) q place + Rs (coS lw (br way wd hg) (li way wd hg) (vg way ga) (vg way ma)) (br way wd hg) (li way wd hg) (li way wd hg - 2 - line) q) (place - 1 + i)))]) rfl ?_
          refine r_iinc X eX4_goOnFrom_98 rfl (nI (place - 1 + i + 1)) (inc_nI _) (L2 := [some (.ref (b + ks)), some (.ref (b + k)), some (.int (nI line)), some (.int (nI place)), some (.int (nI (place - 1))), some (.int (nI (min (place + 1) ((br way wd hg) - 1)))), some (.int (nI (place - 1 + i))), some (.int ((fun q => coS lw (br way wd hg) (li way wd hg) (vg way ga) (vg way ma) (line + 1) q place + Rs (coS lw (br way wd hg) (li way wd hg) (vg way ga) (vg way ma)) (br way wd hg) (li way wd hg) (li way wd hg - 2 - line) q) (place - 1 + i))), some (.int (nI (place - 1 + i + 1))), some (.int ((fun q => coS lw (br way wd hg) (li way wd hg) (vg way ga) (vg way ma) (line + 1) q place + Rs (coS lw (br way wd hg) (li way wd hg) (vg way ga) (vg way ma)) (br way wd hg) (li way wd hg) (li way wd hg - 2 - line) q) (place - 1 + i)))]) rfl ?_
          refine r_goto (tgt := 38) X eX4_goOnFrom_101 (by decide) ?_
          refine r_fg 9 (L2 := [some (.ref (b + ks)), some (.ref (b + k)), some (.int (nI line)), some (.int (nI place)), some (.int (nI (place - 1))), some (.int (nI (min (place + 1) ((br way wd hg) - 1)))), some (.int (nI (place - 1 + i))), some (.int ((fun q => coS lw (br way wd hg) (li way wd hg) (vg way ga) (vg way ma) (line + 1) q place + Rs (coS lw (br way wd hg) (li way wd hg) (vg way ga) (vg way ma)) (br way wd hg) (li way wd hg) (li way wd hg - 2 - line) q) (place - 1 + i))), some (.int (nI (place - 1 + i + 1))), none]) rfl ?_
          exact ih1 (i + 1) (place - 1 + i) ((fun q => coS lw (br way wd hg) (li way wd hg) (vg way ga) (vg way ma) (line + 1) q place + Rs (coS lw (br way wd hg) (li way wd hg) (vg way ga) (vg way ma)) (br way wd hg) (li way wd hg) (li way wd hg - 2 - line) q) (place - 1 + i))  (by omega) (Or.inr ⟨by rw [show i = 0 by omega]; rfl, rfl⟩)  (by omega)
        ·
          have hz := hv.resolve_left (by omega)
          refine r_iload X eX4_goOnFrom_83 rfl ?_
          refine r_iload X eX4_goOnFrom_85 rfl ?_
          refine r_icmp_ge (tgt := 98) X eX4_goOnFrom_87 (by decide) rfl rfl (fun c_6 => ?_) (fun c_6 => ?_)
          ·
            refine r_iinc X eX4_goOnFrom_98 rfl (nI (place - 1 + i + 1)) (inc_nI _) (L2 := [some (.ref (b + ks)), some (.ref (b + k)), some (.int (nI line)), some (.int (nI place)), some (.int (nI (place - 1))), some (.int (nI (min (place + 1) ((br way wd hg) - 1)))), some (.int (nI v)), some (.int c), some (.int (nI (place - 1 + i + 1))), some (.int ((fun q => coS lw (br way wd hg) (li way wd hg) (vg way ga) (vg way ma) (line + 1) q place + Rs (coS lw (br way wd hg) (li way wd hg) (vg way ga) (vg way ma)) (br way wd hg) (li way wd hg) (li way wd hg - 2 - line) q) (place - 1 + i)))]) rfl ?_
            refine r_goto (tgt := 38) X eX4_goOnFrom_101 (by decide) ?_
            refine r_fg 9 (L2 := [some (.ref (b + ks)), some (.ref (b + k)), some (.int (nI line)), some (.int (nI place)), some (.int (nI (place - 1))), some (.int (nI (min (place + 1) ((br way wd hg) - 1)))), some (.int (nI v)), some (.int c), some (.int (nI (place - 1 + i + 1))), none]) rfl ?_
            exact ih1 (i + 1) v c  (by omega) (Or.inr ⟨amx_f2 (F := (fun q => coS lw (br way wd hg) (li way wd hg) (vg way ga) (vg way ma) (line + 1) q place + Rs (coS lw (br way wd hg) (li way wd hg) (vg way ga) (vg way ma)) (br way wd hg) (li way wd hg) (li way wd hg - 2 - line) q)) (by omega) hz c_6, hz.2⟩)  (by omega)
          ·
            refine r_iload X eX4_goOnFrom_90 rfl ?_
            refine r_istore X eX4_goOnFrom_92 (Nat.le_of_ble_eq_true rfl) (L2 := [some (.ref (b + ks)), some (.ref (b + k)), some (.int (nI line)), some (.int (nI place)), some (.int (nI (place - 1))), some (.int (nI (min (place + 1) ((br way wd hg) - 1)))), some (.int (nI (place - 1 + i))), some (.int c), some (.int (nI (place - 1 + i))), some (.int ((fun q => coS lw (br way wd hg) (li way wd hg) (vg way ga) (vg way ma) (line + 1) q place + Rs (coS lw (br way wd hg) (li way wd hg) (vg way ga) (vg way ma)) (br way wd hg) (li way wd hg) (li way wd hg - 2 - line) q) (place - 1 + i)))]) rfl ?_
            refine r_iload X eX4_goOnFrom_94 rfl ?_
            refine r_istore X eX4_goOnFrom_96 (Nat.le_of_ble_eq_true rfl) (L2 := [some (.ref (b + ks)), some (.ref (b + k)), some (.int (nI line)), some (.int (nI place)), some (.int (nI (place - 1))), some (.int (nI (min (place + 1) ((br way wd hg) - 1)))), some (.int (nI (place - 1 + i))), some (.int ((fun q => coS lw (br way wd hg) (li way wd hg) (vg way ga) (vg way ma) (line + 1) q place + Rs (coS lw (br way wd hg) (li way wd hg) (vg way ga) (vg way ma)) (br way wd hg) (li way wd hg) (li way wd hg - 2 - line) q) (place - 1 + i))), some (.int (nI (place - 1 + i))), some (.int ((fun q => coS lw (br way wd hg) (li way wd hg) (vg way ga) (vg way ma) (line + 1) q place + Rs (coS lw (br way wd hg) (li way wd hg) (vg way ga) (vg way ma)) (br way wd hg) (li way wd hg) (li way wd hg - 2 - line) q) (place - 1 + i)))]) rfl ?_
            refine r_iinc X eX4_goOnFrom_98 rfl (nI (place - 1 + i + 1)) (inc_nI _) (L2 := [some (.ref (b + ks)), some (.ref (b + k)), some (.int (nI line)), some (.int (nI place)), some (.int (nI (place - 1))), some (.int (nI (min (place + 1) ((br way wd hg) - 1)))), some (.int (nI (place - 1 + i))), some (.int ((fun q => coS lw (br way wd hg) (li way wd hg) (vg way ga) (vg way ma) (line + 1) q place + Rs (coS lw (br way wd hg) (li way wd hg) (vg way ga) (vg way ma)) (br way wd hg) (li way wd hg) (li way wd hg - 2 - line) q) (place - 1 + i))), some (.int (nI (place - 1 + i + 1))), some (.int ((fun q => coS lw (br way wd hg) (li way wd hg) (vg way ga) (vg way ma) (line + 1) q place + Rs (coS lw (br way wd hg) (li way wd hg) (vg way ga) (vg way ma)) (br way wd hg) (li way wd hg) (li way wd hg - 2 - line) q) (place - 1 + i)))]) rfl ?_
            refine r_goto (tgt := 38) X eX4_goOnFrom_101 (by decide) ?_
            refine r_fg 9 (L2 := [some (.ref (b + ks)), some (.ref (b + k)), some (.int (nI line)), some (.int (nI place)), some (.int (nI (place - 1))), some (.int (nI (min (place + 1) ((br way wd hg) - 1)))), some (.int (nI (place - 1 + i))), some (.int ((fun q => coS lw (br way wd hg) (li way wd hg) (vg way ga) (vg way ma) (line + 1) q place + Rs (coS lw (br way wd hg) (li way wd hg) (vg way ga) (vg way ma)) (br way wd hg) (li way wd hg) (li way wd hg - 2 - line) q) (place - 1 + i))), some (.int (nI (place - 1 + i + 1))), none]) rfl ?_
            exact ih1 (i + 1) (place - 1 + i) ((fun q => coS lw (br way wd hg) (li way wd hg) (vg way ga) (vg way ma) (line + 1) q place + Rs (coS lw (br way wd hg) (li way wd hg) (vg way ga) (vg way ma)) (br way wd hg) (li way wd hg) (li way wd hg - 2 - line) q) (place - 1 + i))  (by omega) (Or.inr ⟨amx_t2 (F := (fun q => coS lw (br way wd hg) (li way wd hg) (vg way ga) (vg way ma) (line + 1) q place + Rs (coS lw (br way wd hg) (li way wd hg) (vg way ga) (vg way ma)) (br way wd hg) (li way wd hg) (li way wd hg - 2 - line) q)) (by omega) hz c_6, rfl⟩)  (by omega)
  exact lp1 _ 0 (place - 1) 0  (by omega) (Or.inl rfl)  (Nat.lt_succ_self _)
set_option maxHeartbeats 4000000 in
set_option maxRecDepth 100000 in
theorem c_X4_weighDot (l : Launch) (G : Gs) (b N : Nat) (w : Wd) (ks : Nat) (hks : ks + 4 ≤ N) (way : Nat) (tot : Int32) (pl ce go : Nat → Int32) (hs : isSm G b w ks way tot pl ce go) (k : Nat) (hk : k + 3 ≤ N) (hdj : ks + 4 ≤ k ∨ k + 3 ≤ ks) (wd hg lw : Nat) (ga ma : Nat → Int32) (hp : isPic G b w k wd hg lw ga ma) (hw : way < 2) (line place : Nat) (hl : line < li way wd hg) (hpl : place < br way wd hg) (hce : line + 1 < li way wd hg → ∀ q, q < br way wd hg → ce ((line + 1) * 8 + q) = stS lw (br way wd hg) (li way wd hg) (vg way ga) (vg way ma) (line + 1) q + Rs (coS lw (br way wd hg) (li way wd hg) (vg way ga) (vg way ma)) (br way wd hg) (li way wd hg) (li way wd hg - 2 - line) q) : CV l yX4_weighDot cX4_weighDot 6 3 G b N w [.ref (b + ks), .ref (b + k), .int (nI line), .int (nI place), .int (bI (line + 1 = li way wd hg))] (fun w2 => ∃ ce2 go2, isSm G b w2 ks way tot pl ce2 go2 ∧ (∀ j, j ≠ line * 8 + place → ce2 j = ce j ∧ go2 j = go j) ∧ ce2 (line * 8 + place) = stS lw (br way wd hg) (li way wd hg) (vg way ga) (vg way ma) line place + Rs (coS lw (br way wd hg) (li way wd hg) (vg way ga) (vg way ma)) (br way wd hg) (li way wd hg) (li way wd hg - 1 - line) place ∧ go2 (line * 8 + place) = nI (gN (coS lw (br way wd hg) (li way wd hg) (vg way ga) (vg way ma)) (br way wd hg) (li way wd hg) line place) ∧ ∀ j, (j < ks ∨ ks + 4 ≤ j) → w2 j = w j) := by
  obtain ⟨f0, f1, f2, f3⟩ := hs
  obtain ⟨e0, e1, e2, q1, q2, q3, q4, q5⟩ := hp
  have hbr := br_or way wd hg
  have hli := li_or way wd hg
  refine CV_of (L0 := [some (.ref (b + ks)), some (.ref (b + k)), some (.int (nI line)), some (.int (nI place)), some (.int (bI (line + 1 = li way wd hg))), none]) (by decide) rfl (by simp [Value.category]) rfl (Nat.le_of_ble_eq_true rfl) (fun κ X ret => ?_)
  have fr_w : ∀ j, (j < ks ∨ ks + 4 ≤ j) → w j = w j := fun _ _ => rfl
  refine r_iload_n X eX4_weighDot_0 rfl ?_
  refine r_bipush X eX4_weighDot_1 (nI 8) (by decide) ?_
  refine r_imul X eX4_weighDot_3 (nI (line * 8)) (pk_mul _ _) ?_
  refine r_iload_n X eX4_weighDot_4 rfl ?_
  refine r_iadd X eX4_weighDot_5 (nI (line * 8 + place)) (addN rfl) ?_
  refine r_istore X eX4_weighDot_6 (Nat.le_of_ble_eq_true rfl) (L2 := [some (.ref (b + ks)), some (.ref (b + k)), some (.int (nI line)), some (.int (nI place)), some (.int (bI (line + 1 = li way wd hg))), some (.int (nI (line * 8 + place)))]) rfl ?_
  refine r_aload_n X eX4_weighDot_8 rfl ?_
  refine gf_X4_15 X eX4_weighDot_9 (by omega) f0 ?_
  refine r_iload X eX4_weighDot_12 rfl ?_
  refine r_aload_n X eX4_weighDot_14 rfl ?_
  refine r_aload_n X eX4_weighDot_15 rfl ?_
  refine gf_X4_21 X eX4_weighDot_16 (by omega) f0 ?_
  refine r_iload_n X eX4_weighDot_19 rfl ?_
  refine r_iload_n X eX4_weighDot_20 rfl ?_
  refine cp_X4_44 X eX4_weighDot_21 (c_X3_standingCost _ G b N w k hk wd hg lw ga ma ⟨e0, e1, e2, q1, q2, q3, q4, q5⟩ way line place hw (by omega) (by omega)) (by decide) (by omega) e0 rfl (Nat.le_of_ble_eq_true rfl) ?_
  refine r_iast X eX4_weighDot_24 (by omega) f2 (by omega) (by decide) (fun w1 n1_w1 uu1 => ?_)
  have f0_w1 := (uu1 ks (by omega)).trans f0
  have f1_w1 := (uu1 (ks + 1) (by omega)).trans f1
  have f3_w1 := (uu1 (ks + 3) (by omega)).trans f3
  have e0_w1 := (uu1 k (by omega)).trans e0
  have e1_w1 := (uu1 (k + 1) (by omega)).trans e1
  have e2_w1 := (uu1 (k + 2) (by omega)).trans e2
  have fr_w1 : ∀ j, (j < ks ∨ ks + 4 ≤ j) → w1 j = w j := fun j hj => (uu1 j (by omega)).trans (fr_w j hj)
  refine r_aload_n X eX4_weighDot_25 rfl ?_
  refine gf_X4_18 X eX4_weighDot_26 (by omega) f0_w1 ?_
  refine r_iload X eX4_weighDot_29 rfl ?_
  refine r_iload_n X eX4_weighDot_31 rfl ?_
  refine r_iast X eX4_weighDot_32 (by omega) f3_w1 (by omega) (by decide) (fun w2 n2_w2 uu2 => ?_)
  have f0_w2 := (uu2 ks (by omega)).trans f0_w1
  have f1_w2 := (uu2 (ks + 1) (by omega)).trans f1_w1
  have n1_w2 := (uu2 (ks + 2) (by omega)).trans n1_w1
  have e0_w2 := (uu2 k (by omega)).trans e0_w1
  have e1_w2 := (uu2 (k + 1) (by omega)).trans e1_w1
  have e2_w2 := (uu2 (k + 2) (by omega)).trans e2_w1
  have fr_w2 : ∀ j, (j < ks ∨ ks + 4 ≤ j) → w2 j = w j := fun j hj => (uu2 j (by omega)).trans (fr_w1 j hj)
  refine r_iload X eX4_weighDot_33 rfl ?_
  refine r_ifne_b (tgt := 45) X eX4_weighDot_35 (by decide) (fun c_3 => ?_) (fun c_3 => ?_)
  ·
    exact ret _ _ _ _ eX4_weighDot_45 (⟨_, _, ⟨f0_w2, f1_w2, n1_w2, n2_w2⟩, fun j hj => ⟨upd_ne hj, upd_ne hj⟩, by rw [upd_self, show li way wd hg - 1 - line = 0 by omega, Rs, Int32.add_zero], by rw [upd_self, gN, if_neg (by omega)], fr_w2⟩)
  ·
    refine r_aload_n X eX4_weighDot_38 rfl ?_
    refine r_aload_n X eX4_weighDot_39 rfl ?_
    refine r_iload_n X eX4_weighDot_40 rfl ?_
    refine r_iload_n X eX4_weighDot_41 rfl ?_
    refine cv_X4_48 X eX4_weighDot_42 (c_X4_goOnFrom _ G b N w2 ks hks way tot pl (upd ce (line * 8 + place) (stS lw (br way wd hg) (li way wd hg) (vg way ga) (vg way ma) line place)) (upd go (line * 8 + place) (nI place)) ⟨f0_w2, f1_w2, n1_w2, n2_w2⟩ k hk hdj wd hg lw ga ma ⟨e0_w2, e1_w2, e2_w2, q1, q2, q3, q4, q5⟩ hw line place (by omega) (by omega) (fun q hq => by rw [upd_ne (by omega)]; exact hce (by omega) q hq)) (by decide) (by omega) f0_w2 rfl (Nat.le_of_ble_eq_true rfl) (fun w4 hp4 => ?_)
    obtain ⟨ce3, go3, ⟨x0_4, x1_4, x2_4, x3_4⟩, y1, y2, y3, g4⟩ := hp4
    have e0_w4 := (g4 k (by omega)).trans e0_w2
    have e1_w4 := (g4 (k + 1) (by omega)).trans e1_w2
    have e2_w4 := (g4 (k + 2) (by omega)).trans e2_w2
    have m5_w4 : w4 ks = .inr (4, [.int (nI way), .int tot, .ref (b + (ks + 1)), .ref (b + (ks + 2)), .ref (b + (ks + 3))]) := x0_4
    have m6_w4 : w4 (ks + 1) = aI G 8 pl := x1_4
    have m7_w4 : w4 (ks + 2) = aI G 64 ce3 := x2_4
    have m8_w4 : w4 (ks + 3) = aI G 64 go3 := x3_4
    have fr_w4 : ∀ j, (j < ks ∨ ks + 4 ≤ j) → w4 j = w j := fun j hj => (g4 j (by omega)).trans (fr_w2 j hj)
    exact ret _ _ _ _ eX4_weighDot_45 (⟨ce3, go3, ⟨m5_w4, m6_w4, m7_w4, m8_w4⟩, fun j hj => ⟨(y1 j hj).1.trans (upd_ne hj), (y1 j hj).2.trans (upd_ne hj)⟩, by rw [y2, upd_self], y3, fr_w4⟩)
