theorem exS_1 {m : Nat → Nat → Int32} {l p : Nat} (h : m l p = 1) : exS m l p = 100 := if_pos h
theorem exS_2 {m : Nat → Nat → Int32} {l p : Nat} (h1 : ¬ m l p = 1) (h : m l p = 2) : exS m l p = -100 := by rw [exS, if_neg h1, if_pos h]
theorem exS_0 {m : Nat → Nat → Int32} {l p : Nat} (h1 : ¬ m l p = 1) (h : ¬ m l p = 2) : exS m l p = 0 := by rw [exS, if_neg h1, if_neg h]
theorem way_or {way : Nat} (hw : way < 2) : way = 0 ∨ way = 1 := by omega
theorem li_sw {way wd hg : Nat} (hw : way < 2) : li (1 - way) wd hg = br way wd hg := by rcases way_or hw with rfl | rfl <;> rfl
theorem br_sw {way wd hg : Nat} (hw : way < 2) : br (1 - way) wd hg = li way wd hg := by rcases way_or hw with rfl | rfl <;> rfl
theorem stS_0 {way wd hg lw l p : Nat} {ga ma : Nat → Int32} (hw : way < 2) (h : lw = 0) : exS (vg way ma) l p + gapS (br way wd hg) (vg way ga) l p + gapS (br (1 - way) wd hg) (vg (1 - way) ga) p l = stS lw (br way wd hg) (li way wd hg) (vg way ga) (vg way ma) l p := by
  rw [stS, if_pos h]
  rcases way_or hw with rfl | rfl <;> rfl
theorem stS_1 {lw nb nl l p : Nat} {h m : Nat → Nat → Int32} (e : lw ≠ 0) : exS m l p + gapS nb h l p = stS lw nb nl h m l p := by rw [stS, if_neg e, Int32.add_zero]
theorem tuS_0 {lw nb l p fr : Nat} {h : Nat → Nat → Int32} (e : lw = 0 ∨ fr = p) : tuS lw nb h l p fr = nI 0 := by rw [tuS, if_pos e]; rfl
theorem tuS_l {way lw nb l p fr : Nat} {ga : Nat → Int32} (e : lw ≠ 0) (e2 : fr < p) : iab (ga (ix way (l - 1) p) - ga (ix way l (p - 1))) = tuS lw nb (vg way ga) l p fr := by
  have h : ¬ (lw = 0 ∨ fr = p) := by omega
  rw [tuS, if_neg h, if_pos e2]
  rfl
theorem tuS_r {way lw nb l p fr : Nat} {ga : Nat → Int32} (e : lw ≠ 0) (e2 : ¬ fr < p) (e3 : fr ≠ p) : iab (ga (ix way (l - 1) p) - ga (ix way l (min (p + 1) (nb - 1)))) = tuS lw nb (vg way ga) l p fr := by
  have h : ¬ (lw = 0 ∨ fr = p) := by omega
  rw [tuS, if_neg h, if_neg e2]
  rfl
set_option maxHeartbeats 4000000 in
set_option maxRecDepth 100000 in
theorem c_X3_lines (l : Launch) (G : Gs) (b N : Nat) (w : Wd) (k : Nat) (hk : k + 3 ≤ N) (wd hg lw : Nat) (ga ma : Nat → Int32) (hp : isPic G b w k wd hg lw ga ma) (way : Nat) (hw : way < 2) : CI l yX3_lines cX3_lines 2 (some .int) 0 G b N w [.ref (b + k), .int (nI way)] (fun r w2 => r = nI (li way wd hg) ∧ w2 = w) := by
  obtain ⟨e0, e1, e2, q1, q2, q3, q4, q5⟩ := hp
  refine CI_of (L0 := [some (.ref (b + k)), some (.int (nI way))]) (by decide) rfl (by simp [Value.category]) rfl (Nat.le_of_ble_eq_true rfl) rfl (fun κ X ret => ?_)
  refine r_iload_n X eX3_lines_0 rfl ?_
  refine r_if_ne (tgt := 11) X eX3_lines_1 (by decide) (nI_toInt (by omega)) (fun c_1 => ?_) (fun c_1 => ?_)
  ·
    refine r_aload_n X eX3_lines_11 rfl ?_
    refine gf_X3_9 X eX3_lines_12 (by omega) e0 ?_
    exact ret _ _ _ _ _ eX3_lines_15 (⟨congrArg nI (by unfold li; split <;> omega), rfl⟩)
  ·
    refine r_aload_n X eX3_lines_4 rfl ?_
    refine gf_X3_15 X eX3_lines_5 (by omega) e0 ?_
    refine r_goto (tgt := 15) X eX3_lines_8 (by decide) ?_
    exact ret _ _ _ _ _ eX3_lines_15 (⟨congrArg nI (by unfold li; split <;> omega), rfl⟩)
set_option maxHeartbeats 4000000 in
set_option maxRecDepth 100000 in
theorem c_X3_breadth (l : Launch) (G : Gs) (b N : Nat) (w : Wd) (k : Nat) (hk : k + 3 ≤ N) (wd hg lw : Nat) (ga ma : Nat → Int32) (hp : isPic G b w k wd hg lw ga ma) (way : Nat) (hw : way < 2) : CI l yX3_breadth cX3_breadth 2 (some .int) 0 G b N w [.ref (b + k), .int (nI way)] (fun r w2 => r = nI (br way wd hg) ∧ w2 = w) := by
  obtain ⟨e0, e1, e2, q1, q2, q3, q4, q5⟩ := hp
  refine CI_of (L0 := [some (.ref (b + k)), some (.int (nI way))]) (by decide) rfl (by simp [Value.category]) rfl (Nat.le_of_ble_eq_true rfl) rfl (fun κ X ret => ?_)
  refine r_iload_n X eX3_breadth_0 rfl ?_
  refine r_if_ne (tgt := 11) X eX3_breadth_1 (by decide) (nI_toInt (by omega)) (fun c_1 => ?_) (fun c_1 => ?_)
  ·
    refine r_aload_n X eX3_breadth_11 rfl ?_
    refine gf_X3_15 X eX3_breadth_12 (by omega) e0 ?_
    exact ret _ _ _ _ _ eX3_breadth_15 (⟨congrArg nI (by unfold br; split <;> omega), rfl⟩)
  ·
    refine r_aload_n X eX3_breadth_4 rfl ?_
    refine gf_X3_9 X eX3_breadth_5 (by omega) e0 ?_
    refine r_goto (tgt := 15) X eX3_breadth_8 (by decide) ?_
    exact ret _ _ _ _ _ eX3_breadth_15 (⟨congrArg nI (by unfold br; split <;> omega), rfl⟩)
set_option maxHeartbeats 4000000 in
set_option maxRecDepth 100000 in
theorem c_X3_index (l : Launch) (G : Gs) (b N : Nat) (w : Wd) (way line place : Nat) (hw : way < 2) (hl : line < 8) (hq : place < 8) : CI l yX3_index cX3_index 3 (some .int) 0 G b N w [.int (nI way), .int (nI line), .int (nI place)] (fun r w2 => r = nI (ix way line place) ∧ w2 = w) := by
  refine CI_of (L0 := [some (.int (nI way)), some (.int (nI line)), some (.int (nI place))]) (by decide) rfl (by simp [Value.category]) rfl (Nat.le_of_ble_eq_true rfl) rfl (fun κ X ret => ?_)
  refine r_iload_n X eX3_index_0 rfl ?_
  refine r_if_ne (tgt := 13) X eX3_index_1 (by decide) (nI_toInt (by omega)) (fun c_1 => ?_) (fun c_1 => ?_)
  ·
    refine r_iload_n X eX3_index_13 rfl ?_
    refine r_bipush X eX3_index_14 (nI 8) (by decide) ?_
    refine r_imul X eX3_index_16 (nI (place * 8)) (pk_mul _ _) ?_
    refine r_iload_n X eX3_index_17 rfl ?_
    refine r_iadd X eX3_index_18 (nI ((place * 8) + line)) (addN (by omega)) ?_
    exact ret _ _ _ _ _ eX3_index_19 (⟨congrArg nI (by unfold ix; split <;> omega), rfl⟩)
  ·
    refine r_iload_n X eX3_index_4 rfl ?_
    refine r_bipush X eX3_index_5 (nI 8) (by decide) ?_
    refine r_imul X eX3_index_7 (nI (line * 8)) (pk_mul _ _) ?_
    refine r_iload_n X eX3_index_8 rfl ?_
    refine r_iadd X eX3_index_9 (nI ((line * 8) + place)) (addN (by omega)) ?_
    refine r_goto (tgt := 19) X eX3_index_10 (by decide) ?_
    exact ret _ _ _ _ _ eX3_index_19 (⟨congrArg nI (by unfold ix; split <;> omega), rfl⟩)
set_option maxHeartbeats 4000000 in
set_option maxRecDepth 100000 in
theorem c_X3_hasDot (l : Launch) (G : Gs) (b N : Nat) (w : Wd) (k : Nat) (hk : k + 3 ≤ N) (wd hg lw : Nat) (ga ma : Nat → Int32) (hp : isPic G b w k wd hg lw ga ma) (x y : Int32) : CI l yX3_hasDot cX3_hasDot 3 (some .boolean) 0 G b N w [.ref (b + k), .int x, .int y] (fun r w2 => r = bI (0 ≤ x.toInt ∧ x.toInt < wd ∧ 0 ≤ y.toInt ∧ y.toInt < hg) ∧ w2 = w) := by
  obtain ⟨e0, e1, e2, q1, q2, q3, q4, q5⟩ := hp
  refine CZ_of (L0 := [some (.ref (b + k)), some (.int x), some (.int y)]) (by decide) rfl (by simp [Value.category]) rfl (Nat.le_of_ble_eq_true rfl) rfl (fun κ X ret => ?_)
  refine r_iload_n X eX3_hasDot_0 rfl ?_
  refine r_if_lt (tgt := 28) X eX3_hasDot_1 (by decide) rfl (fun c_1 => ?_) (fun c_1 => ?_)
  ·
    refine r_iconst X eX3_hasDot_28 (nI 0) (by decide) ?_
    exact ret _ _ _ _ _ eX3_hasDot_29 (Or.inl rfl) (⟨bI_f (by omega), rfl⟩)
  ·
    refine r_iload_n X eX3_hasDot_4 rfl ?_
    refine r_aload_n X eX3_hasDot_5 rfl ?_
    refine gf_X3_9 X eX3_hasDot_6 (by omega) e0 ?_
    refine r_icmp_ge (tgt := 28) X eX3_hasDot_9 (by decide) rfl (nI_toInt (by omega)) (fun c_2 => ?_) (fun c_2 => ?_)
    ·
      refine r_iconst X eX3_hasDot_28 (nI 0) (by decide) ?_
      exact ret _ _ _ _ _ eX3_hasDot_29 (Or.inl rfl) (⟨bI_f (by omega), rfl⟩)
    ·
      refine r_iload_n X eX3_hasDot_12 rfl ?_
      refine r_if_lt (tgt := 28) X eX3_hasDot_13 (by decide) rfl (fun c_3 => ?_) (fun c_3 => ?_)
      ·
        refine r_iconst X eX3_hasDot_28 (nI 0) (by decide) ?_
        exact ret _ _ _ _ _ eX3_hasDot_29 (Or.inl rfl) (⟨bI_f (by omega), rfl⟩)
      ·
        refine r_iload_n X eX3_hasDot_16 rfl ?_
        refine r_aload_n X eX3_hasDot_17 rfl ?_
        refine gf_X3_15 X eX3_hasDot_18 (by omega) e0 ?_
        refine r_icmp_ge (tgt := 28) X eX3_hasDot_21 (by decide) rfl (nI_toInt (by omega)) (fun c_4 => ?_) (fun c_4 => ?_)
        ·
          refine r_iconst X eX3_hasDot_28 (nI 0) (by decide) ?_
          exact ret _ _ _ _ _ eX3_hasDot_29 (Or.inl rfl) (⟨bI_f (by omega), rfl⟩)
        ·
          refine r_iconst X eX3_hasDot_24 (nI 1) (by decide) ?_
          refine r_goto (tgt := 29) X eX3_hasDot_25 (by decide) ?_
          exact ret _ _ _ _ _ eX3_hasDot_29 (Or.inr rfl) (⟨bI_t (by omega), rfl⟩)
set_option maxHeartbeats 4000000 in
set_option maxRecDepth 100000 in
theorem c_X3_changeGrey (l : Launch) (G : Gs) (b N : Nat) (w : Wd) (k : Nat) (hk : k + 3 ≤ N) (wd hg lw : Nat) (ga ma : Nat → Int32) (hp : isPic G b w k wd hg lw ga ma) (x y : Nat) (hx : x < 8) (hy : y < 8) (v : Int32) : CI l yX3_changeGrey cX3_changeGrey 6 (some .int) 1 G b N w [.ref (b + k), .int (nI x), .int (nI y), .int v] (fun r w2 => r = ga (ix 0 y x) ∧ isPic G b w2 k wd hg lw (upd ga (ix 0 y x) v) (ma) ∧ ∀ j, j < k ∨ k + 3 ≤ j → w2 j = w j) := by
  obtain ⟨e0, e1, e2, q1, q2, q3, q4, q5⟩ := hp
  refine CI_of (L0 := [some (.ref (b + k)), some (.int (nI x)), some (.int (nI y)), some (.int v), none, none]) (by decide) rfl (by simp [Value.category]) rfl (Nat.le_of_ble_eq_true rfl) rfl (fun κ X ret => ?_)
  have fr_w : ∀ j, (j < k ∨ k + 3 ≤ j) → w j = w j := fun _ _ => rfl
  refine r_iconst X eX3_changeGrey_0 (nI 0) (by decide) ?_
  refine r_iload_n X eX3_changeGrey_1 rfl ?_
  refine r_iload_n X eX3_changeGrey_2 rfl ?_
  refine cp_X3_28 X eX3_changeGrey_3 (c_X3_index _ G b N w 0 y x (by omega) (by omega) (by omega)) (by decide) rfl (Nat.le_of_ble_eq_true rfl) ?_
  refine r_istore X eX3_changeGrey_6 (Nat.le_of_ble_eq_true rfl) (L2 := [some (.ref (b + k)), some (.int (nI x)), some (.int (nI y)), some (.int v), some (.int (nI (ix 0 y x))), none]) rfl ?_
  refine r_aload_n X eX3_changeGrey_8 rfl ?_
  refine gf_X3_18 X eX3_changeGrey_9 (by omega) e0 ?_
  refine r_iload X eX3_changeGrey_12 rfl ?_
  refine r_iald X eX3_changeGrey_14 (by omega) e1 (ix_lt hy hx) (by decide) ?_
  refine r_istore X eX3_changeGrey_15 (Nat.le_of_ble_eq_true rfl) (L2 := [some (.ref (b + k)), some (.int (nI x)), some (.int (nI y)), some (.int v), some (.int (nI (ix 0 y x))), some (.int (ga (ix 0 y x)))]) rfl ?_
  refine r_aload_n X eX3_changeGrey_17 rfl ?_
  refine gf_X3_18 X eX3_changeGrey_18 (by omega) e0 ?_
  refine r_iload X eX3_changeGrey_21 rfl ?_
  refine r_iload_n X eX3_changeGrey_23 rfl ?_
  refine r_iast X eX3_changeGrey_24 (by omega) e1 (ix_lt hy hx) (by decide) (fun w1 n1_w1 uu1 => ?_)
  have e0_w1 := (uu1 k (by omega)).trans e0
  have e2_w1 := (uu1 (k + 2) (by omega)).trans e2
  have fr_w1 : ∀ j, (j < k ∨ k + 3 ≤ j) → w1 j = w j := fun j hj => (uu1 j (by omega)).trans (fr_w j hj)
  refine r_iload X eX3_changeGrey_25 rfl ?_
  exact ret _ _ _ _ _ eX3_changeGrey_27 (⟨rfl, ⟨e0_w1, n1_w1, e2_w1, q1, q2, q3, q4, q5⟩, fr_w1⟩)
set_option maxHeartbeats 4000000 in
set_option maxRecDepth 100000 in
theorem c_X3_changeMark (l : Launch) (G : Gs) (b N : Nat) (w : Wd) (k : Nat) (hk : k + 3 ≤ N) (wd hg lw : Nat) (ga ma : Nat → Int32) (hp : isPic G b w k wd hg lw ga ma) (x y : Nat) (hx : x < 8) (hy : y < 8) (v : Int32) : CI l yX3_changeMark cX3_changeMark 6 (some .int) 1 G b N w [.ref (b + k), .int (nI x), .int (nI y), .int v] (fun r w2 => r = ma (ix 0 y x) ∧ isPic G b w2 k wd hg lw (ga) (upd ma (ix 0 y x) v) ∧ ∀ j, j < k ∨ k + 3 ≤ j → w2 j = w j) := by
  obtain ⟨e0, e1, e2, q1, q2, q3, q4, q5⟩ := hp
  refine CI_of (L0 := [some (.ref (b + k)), some (.int (nI x)), some (.int (nI y)), some (.int v), none, none]) (by decide) rfl (by simp [Value.category]) rfl (Nat.le_of_ble_eq_true rfl) rfl (fun κ X ret => ?_)
  have fr_w : ∀ j, (j < k ∨ k + 3 ≤ j) → w j = w j := fun _ _ => rfl
  refine r_iconst X eX3_changeMark_0 (nI 0) (by decide) ?_
  refine r_iload_n X eX3_changeMark_1 rfl ?_
  refine r_iload_n X eX3_changeMark_2 rfl ?_
  refine cp_X3_28 X eX3_changeMark_3 (c_X3_index _ G b N w 0 y x (by omega) (by omega) (by omega)) (by decide) rfl (Nat.le_of_ble_eq_true rfl) ?_
  refine r_istore X eX3_changeMark_6 (Nat.le_of_ble_eq_true rfl) (L2 := [some (.ref (b + k)), some (.int (nI x)), some (.int (nI y)), some (.int v), some (.int (nI (ix 0 y x))), none]) rfl ?_
  refine r_aload_n X eX3_changeMark_8 rfl ?_
  refine gf_X3_22 X eX3_changeMark_9 (by omega) e0 ?_
  refine r_iload X eX3_changeMark_12 rfl ?_
  refine r_iald X eX3_changeMark_14 (by omega) e2 (ix_lt hy hx) (by decide) ?_
  refine r_istore X eX3_changeMark_15 (Nat.le_of_ble_eq_true rfl) (L2 := [some (.ref (b + k)), some (.int (nI x)), some (.int (nI y)), some (.int v), some (.int (nI (ix 0 y x))), some (.int (ma (ix 0 y x)))]) rfl ?_
  refine r_aload_n X eX3_changeMark_17 rfl ?_
  refine gf_X3_22 X eX3_changeMark_18 (by omega) e0 ?_
  refine r_iload X eX3_changeMark_21 rfl ?_
  refine r_iload_n X eX3_changeMark_23 rfl ?_
  refine r_iast X eX3_changeMark_24 (by omega) e2 (ix_lt hy hx) (by decide) (fun w1 n1_w1 uu1 => ?_)
  have e0_w1 := (uu1 k (by omega)).trans e0
  have e1_w1 := (uu1 (k + 1) (by omega)).trans e1
  have fr_w1 : ∀ j, (j < k ∨ k + 3 ≤ j) → w1 j = w j := fun j hj => (uu1 j (by omega)).trans (fr_w j hj)
  refine r_iload X eX3_changeMark_25 rfl ?_
  exact ret _ _ _ _ _ eX3_changeMark_27 (⟨rfl, ⟨e0_w1, e1_w1, n1_w1, q1, q2, q3, q4, q5⟩, fr_w1⟩)
set_option maxHeartbeats 4000000 in
set_option maxRecDepth 100000 in
theorem c_X3_greyAt (l : Launch) (G : Gs) (b N : Nat) (w : Wd) (k : Nat) (hk : k + 3 ≤ N) (wd hg lw : Nat) (ga ma : Nat → Int32) (hp : isPic G b w k wd hg lw ga ma) (way line place : Nat) (hw : way < 2) (hl : line < 8) (hq : place < 8) : CI l yX3_greyAt cX3_greyAt 4 (some .int) 1 G b N w [.ref (b + k), .int (nI way), .int (nI line), .int (nI place)] (fun r w2 => r = vg way ga line place ∧ w2 = w) := by
  obtain ⟨e0, e1, e2, q1, q2, q3, q4, q5⟩ := hp
  refine CI_of (L0 := [some (.ref (b + k)), some (.int (nI way)), some (.int (nI line)), some (.int (nI place))]) (by decide) rfl (by simp [Value.category]) rfl (Nat.le_of_ble_eq_true rfl) rfl (fun κ X ret => ?_)
  refine r_aload_n X eX3_greyAt_0 rfl ?_
  refine gf_X3_18 X eX3_greyAt_1 (by omega) e0 ?_
  refine r_iload_n X eX3_greyAt_4 rfl ?_
  refine r_iload_n X eX3_greyAt_5 rfl ?_
  refine r_iload_n X eX3_greyAt_6 rfl ?_
  refine cp_X3_28 X eX3_greyAt_7 (c_X3_index _ G b N w way line place (by omega) (by omega) (by omega)) (by decide) rfl (Nat.le_of_ble_eq_true rfl) ?_
  refine r_iald X eX3_greyAt_10 (by omega) e1 (ix_lt hl hq) (by decide) ?_
  exact ret _ _ _ _ _ eX3_greyAt_11 (⟨rfl, rfl⟩)
set_option maxHeartbeats 4000000 in
set_option maxRecDepth 100000 in
theorem c_X3_markAt (l : Launch) (G : Gs) (b N : Nat) (w : Wd) (k : Nat) (hk : k + 3 ≤ N) (wd hg lw : Nat) (ga ma : Nat → Int32) (hp : isPic G b w k wd hg lw ga ma) (way line place : Nat) (hw : way < 2) (hl : line < 8) (hq : place < 8) : CI l yX3_markAt cX3_markAt 4 (some .int) 1 G b N w [.ref (b + k), .int (nI way), .int (nI line), .int (nI place)] (fun r w2 => r = vg way ma line place ∧ w2 = w) := by
  obtain ⟨e0, e1, e2, q1, q2, q3, q4, q5⟩ := hp
  refine CI_of (L0 := [some (.ref (b + k)), some (.int (nI way)), some (.int (nI line)), some (.int (nI place))]) (by decide) rfl (by simp [Value.category]) rfl (Nat.le_of_ble_eq_true rfl) rfl (fun κ X ret => ?_)
  refine r_aload_n X eX3_markAt_0 rfl ?_
  refine gf_X3_22 X eX3_markAt_1 (by omega) e0 ?_
  refine r_iload_n X eX3_markAt_4 rfl ?_
  refine r_iload_n X eX3_markAt_5 rfl ?_
  refine r_iload_n X eX3_markAt_6 rfl ?_
  refine cp_X3_28 X eX3_markAt_7 (c_X3_index _ G b N w way line place (by omega) (by omega) (by omega)) (by decide) rfl (Nat.le_of_ble_eq_true rfl) ?_
  refine r_iald X eX3_markAt_10 (by omega) e2 (ix_lt hl hq) (by decide) ?_
  exact ret _ _ _ _ _ eX3_markAt_11 (⟨rfl, rfl⟩)
set_option maxHeartbeats 4000000 in
set_option maxRecDepth 100000 in
theorem c_X3_extraAt (l : Launch) (G : Gs) (b N : Nat) (w : Wd) (k : Nat) (hk : k + 3 ≤ N) (wd hg lw : Nat) (ga ma : Nat → Int32) (hp : isPic G b w k wd hg lw ga ma) (way line place : Nat) (hw : way < 2) (hl : line < 8) (hq : place < 8) : CI l yX3_extraAt cX3_extraAt 5 (some .int) 1 G b N w [.ref (b + k), .int (nI way), .int (nI line), .int (nI place)] (fun r w2 => r = exS (vg way ma) line place ∧ w2 = w) := by
  obtain ⟨e0, e1, e2, q1, q2, q3, q4, q5⟩ := hp
  refine CI_of (L0 := [some (.ref (b + k)), some (.int (nI way)), some (.int (nI line)), some (.int (nI place)), none]) (by decide) rfl (by simp [Value.category]) rfl (Nat.le_of_ble_eq_true rfl) rfl (fun κ X ret => ?_)
  refine r_aload_n X eX3_extraAt_0 rfl ?_
  refine gf_X3_22 X eX3_extraAt_1 (by omega) e0 ?_
  refine r_iload_n X eX3_extraAt_4 rfl ?_
  refine r_iload_n X eX3_extraAt_5 rfl ?_
  refine r_iload_n X eX3_extraAt_6 rfl ?_
  refine cp_X3_28 X eX3_extraAt_7 (c_X3_index _ G b N w way line place (by omega) (by omega) (by omega)) (by decide) rfl (Nat.le_of_ble_eq_true rfl) ?_
  refine r_iald X eX3_extraAt_10 (by omega) e2 (ix_lt hl hq) (by decide) ?_
  refine r_istore X eX3_extraAt_11 (Nat.le_of_ble_eq_true rfl) (L2 := [some (.ref (b + k)), some (.int (nI way)), some (.int (nI line)), some (.int (nI place)), some (.int (ma (ix way line place)))]) rfl ?_
  refine r_iload X eX3_extraAt_13 rfl ?_
  refine r_iconst X eX3_extraAt_15 ((1 : Int32)) (by decide) ?_
  refine r_icmp_ne (tgt := 24) X eX3_extraAt_16 (by decide) rfl rfl (fun c_1 => ?_) (fun c_1 => ?_)
  ·
    refine r_iload X eX3_extraAt_24 rfl ?_
    refine r_iconst X eX3_extraAt_26 ((2 : Int32)) (by decide) ?_
    refine r_icmp_ne (tgt := 35) X eX3_extraAt_27 (by decide) rfl rfl (fun c_2 => ?_) (fun c_2 => ?_)
    ·
      refine r_iconst X eX3_extraAt_35 ((0 : Int32)) (by decide) ?_
      exact ret _ _ _ _ _ eX3_extraAt_36 (⟨(exS_0 (fun q => c_1 (congrArg Int32.toInt q)) (fun q => c_2 (congrArg Int32.toInt q))).symm, rfl⟩)
    ·
      refine r_bipush X eX3_extraAt_30 ((-100 : Int32)) (by decide) ?_
      refine r_goto (tgt := 36) X eX3_extraAt_32 (by decide) ?_
      exact ret _ _ _ _ _ eX3_extraAt_36 (⟨(exS_2 (fun q => c_1 (congrArg Int32.toInt q)) (Int32.toInt_inj.mp c_2)).symm, rfl⟩)
  ·
    refine r_bipush X eX3_extraAt_19 ((100 : Int32)) (by decide) ?_
    refine r_goto (tgt := 36) X eX3_extraAt_21 (by decide) ?_
    exact ret _ _ _ _ _ eX3_extraAt_36 (⟨(exS_1 (Int32.toInt_inj.mp c_1)).symm, rfl⟩)
set_option maxHeartbeats 4000000 in
set_option maxRecDepth 100000 in
theorem c_X3_gapAt (l : Launch) (G : Gs) (b N : Nat) (w : Wd) (k : Nat) (hk : k + 3 ≤ N) (wd hg lw : Nat) (ga ma : Nat → Int32) (hp : isPic G b w k wd hg lw ga ma) (way line place : Nat) (hw : way < 2) (hl : line < li way wd hg) (hq : place < br way wd hg) : CI l yX3_gapAt cX3_gapAt 6 (some .int) 1 G b N w [.ref (b + k), .int (nI way), .int (nI line), .int (nI place)] (fun r w2 => r = gapS (br way wd hg) (vg way ga) line place ∧ w2 = w) := by
  obtain ⟨e0, e1, e2, q1, q2, q3, q4, q5⟩ := hp
  have hbr := br_or way wd hg
  have hli := li_or way wd hg
  refine CI_of (L0 := [some (.ref (b + k)), some (.int (nI way)), some (.int (nI line)), some (.int (nI place)), none, none]) (by decide) rfl (by simp [Value.category]) rfl (Nat.le_of_ble_eq_true rfl) rfl (fun κ X ret => ?_)
  refine r_aload_n X eX3_gapAt_0 rfl ?_
  refine gf_X3_18 X eX3_gapAt_1 (by omega) e0 ?_
  refine r_iload_n X eX3_gapAt_4 rfl ?_
  refine r_iload_n X eX3_gapAt_5 rfl ?_
  refine r_iload_n X eX3_gapAt_6 rfl ?_
  refine r_iconst X eX3_gapAt_7 (nI 1) (by decide) ?_
  refine r_isub X eX3_gapAt_8 (nP place) (subP _) ?_
  refine r_iconst X eX3_gapAt_9 (nI 0) (by decide) ?_
  refine mx_X3_32 X eX3_gapAt_10 rfl (Nat.le_of_ble_eq_true rfl) (nI (place - 1)) (maxP (by omega)) ?_
  refine cp_X3_28 X eX3_gapAt_13 (c_X3_index _ G b N w way line (place - 1) (by omega) (by omega) (by omega)) (by decide) rfl (Nat.le_of_ble_eq_true rfl) ?_
  refine r_iald X eX3_gapAt_16 (by omega) e1 (ix_lt (by omega) (by omega)) (by decide) ?_
  refine r_istore X eX3_gapAt_17 (Nat.le_of_ble_eq_true rfl) (L2 := [some (.ref (b + k)), some (.int (nI way)), some (.int (nI line)), some (.int (nI place)), some (.int (ga (ix way line (place - 1)))), none]) rfl ?_
  refine r_aload_n X eX3_gapAt_19 rfl ?_
  refine gf_X3_18 X eX3_gapAt_20 (by omega) e0 ?_
  refine r_iload_n X eX3_gapAt_23 rfl ?_
  refine r_iload_n X eX3_gapAt_24 rfl ?_
  refine r_iload_n X eX3_gapAt_25 rfl ?_
  refine r_iconst X eX3_gapAt_26 (nI 1) (by decide) ?_
  refine r_iadd X eX3_gapAt_27 (nI (place + 1)) (addN (by omega)) ?_
  refine r_aload_n X eX3_gapAt_28 rfl ?_
  refine r_iload_n X eX3_gapAt_29 rfl ?_
  refine cp_X3_38 X eX3_gapAt_30 (c_X3_breadth _ G b N w k hk wd hg lw ga ma ⟨e0, e1, e2, q1, q2, q3, q4, q5⟩ way (by omega)) (by decide) (by omega) e0 rfl (Nat.le_of_ble_eq_true rfl) ?_
  refine r_iconst X eX3_gapAt_33 (nI 1) (by decide) ?_
  refine r_isub X eX3_gapAt_34 (nI ((br way wd hg) - 1)) (pk_sub (by omega)) ?_
  refine mn_X3_42 X eX3_gapAt_35 rfl (Nat.le_of_ble_eq_true rfl) (nI (min (place + 1) ((br way wd hg) - 1))) (minN (by omega) (by omega)) ?_
  refine cp_X3_28 X eX3_gapAt_38 (c_X3_index _ G b N w way line (min (place + 1) (br way wd hg - 1)) (by omega) (by omega) (by omega)) (by decide) rfl (Nat.le_of_ble_eq_true rfl) ?_
  refine r_iald X eX3_gapAt_41 (by omega) e1 (ix_lt (by omega) (by omega)) (by decide) ?_
  refine r_istore X eX3_gapAt_42 (Nat.le_of_ble_eq_true rfl) (L2 := [some (.ref (b + k)), some (.int (nI way)), some (.int (nI line)), some (.int (nI place)), some (.int (ga (ix way line (place - 1)))), some (.int (ga (ix way line (min (place + 1) (br way wd hg - 1)))))]) rfl ?_
  refine r_iload X eX3_gapAt_44 rfl ?_
  refine r_iload X eX3_gapAt_46 rfl ?_
  refine r_isub X eX3_gapAt_48 ((ga (ix way line (place - 1))) - (ga (ix way line (min (place + 1) (br way wd hg - 1))))) rfl ?_
  refine ab_X3_45 X eX3_gapAt_49 rfl (Nat.le_of_ble_eq_true rfl) (iab ((ga (ix way line (place - 1))) - (ga (ix way line (min (place + 1) (br way wd hg - 1)))))) rfl ?_
  exact ret _ _ _ _ _ eX3_gapAt_52 (⟨rfl, rfl⟩)
set_option maxHeartbeats 4000000 in
set_option maxRecDepth 100000 in
theorem c_X3_edgeAt (l : Launch) (G : Gs) (b N : Nat) (w : Wd) (k : Nat) (hk : k + 3 ≤ N) (wd hg lw : Nat) (ga ma : Nat → Int32) (hp : isPic G b w k wd hg lw ga ma) (x y : Nat) (hx : x < wd) (hy : y < hg) : CI l yX3_edgeAt cX3_edgeAt 3 (some .int) 2 G b N w [.ref (b + k), .int (nI x), .int (nI y)] (fun r w2 => r = gapS wd (vg 0 ga) y x + vgapS hg (vg 0 ga) y x ∧ w2 = w) := by
  obtain ⟨e0, e1, e2, q1, q2, q3, q4, q5⟩ := hp
  refine CI_of (L0 := [some (.ref (b + k)), some (.int (nI x)), some (.int (nI y))]) (by decide) rfl (by simp [Value.category]) rfl (Nat.le_of_ble_eq_true rfl) rfl (fun κ X ret => ?_)
  refine r_aload_n X eX3_edgeAt_0 rfl ?_
  refine r_iconst X eX3_edgeAt_1 (nI 0) (by decide) ?_
  refine r_iload_n X eX3_edgeAt_2 rfl ?_
  refine r_iload_n X eX3_edgeAt_3 rfl ?_
  refine cp_X3_48 X eX3_edgeAt_4 (c_X3_gapAt _ G b N w k hk wd hg lw ga ma ⟨e0, e1, e2, q1, q2, q3, q4, q5⟩ 0 y x (by omega) (by simpa [br, li] using (by omega)) (by simpa [br, li] using (by omega))) (by decide) (by omega) e0 rfl (Nat.le_of_ble_eq_true rfl) ?_
  refine r_aload_n X eX3_edgeAt_7 rfl ?_
  refine r_iconst X eX3_edgeAt_8 (nI 1) (by decide) ?_
  refine r_iload_n X eX3_edgeAt_9 rfl ?_
  refine r_iload_n X eX3_edgeAt_10 rfl ?_
  refine cp_X3_48 X eX3_edgeAt_11 (c_X3_gapAt _ G b N w k hk wd hg lw ga ma ⟨e0, e1, e2, q1, q2, q3, q4, q5⟩ 1 x y (by omega) (by simpa [br, li] using (by omega)) (by simpa [br, li] using (by omega))) (by decide) (by omega) e0 rfl (Nat.le_of_ble_eq_true rfl) ?_
  refine r_iadd X eX3_edgeAt_14 ((gapS (br 0 wd hg) (vg 0 ga) y x) + (gapS (br 1 wd hg) (vg 1 ga) x y)) rfl ?_
  exact ret _ _ _ _ _ eX3_edgeAt_15 (⟨rfl, rfl⟩)
set_option maxHeartbeats 4000000 in
set_option maxRecDepth 100000 in
theorem c_X3_weightAt (l : Launch) (G : Gs) (b N : Nat) (w : Wd) (k : Nat) (hk : k + 3 ≤ N) (wd hg lw : Nat) (ga ma : Nat → Int32) (hp : isPic G b w k wd hg lw ga ma) (x y : Nat) (hx : x < wd) (hy : y < hg) : CI l yX3_weightAt cX3_weightAt 3 (some .int) 3 G b N w [.ref (b + k), .int (nI x), .int (nI y)] (fun r w2 => r = wtS wd hg (vg 0 ga) (vg 0 ma) y x ∧ w2 = w) := by
  obtain ⟨e0, e1, e2, q1, q2, q3, q4, q5⟩ := hp
  refine CI_of (L0 := [some (.ref (b + k)), some (.int (nI x)), some (.int (nI y))]) (by decide) rfl (by simp [Value.category]) rfl (Nat.le_of_ble_eq_true rfl) rfl (fun κ X ret => ?_)
  refine r_aload_n X eX3_weightAt_0 rfl ?_
  refine r_iload_n X eX3_weightAt_1 rfl ?_
  refine r_iload_n X eX3_weightAt_2 rfl ?_
  refine cp_X3_51 X eX3_weightAt_3 (c_X3_edgeAt _ G b N w k hk wd hg lw ga ma ⟨e0, e1, e2, q1, q2, q3, q4, q5⟩ x y hx hy) (by decide) (by omega) e0 rfl (Nat.le_of_ble_eq_true rfl) ?_
  refine r_aload_n X eX3_weightAt_6 rfl ?_
  refine r_iconst X eX3_weightAt_7 (nI 0) (by decide) ?_
  refine r_iload_n X eX3_weightAt_8 rfl ?_
  refine r_iload_n X eX3_weightAt_9 rfl ?_
  refine cp_X3_54 X eX3_weightAt_10 (c_X3_extraAt _ G b N w k hk wd hg lw ga ma ⟨e0, e1, e2, q1, q2, q3, q4, q5⟩ 0 y x (by omega) (by omega) (by omega)) (by decide) (by omega) e0 rfl (Nat.le_of_ble_eq_true rfl) ?_
  refine r_iadd X eX3_weightAt_13 ((gapS wd (vg 0 ga) y x + vgapS hg (vg 0 ga) y x) + (exS (vg 0 ma) y x)) rfl ?_
  exact ret _ _ _ _ _ eX3_weightAt_14 (⟨rfl, rfl⟩)
set_option maxHeartbeats 4000000 in
set_option maxRecDepth 100000 in
theorem c_X3_standingCost (l : Launch) (G : Gs) (b N : Nat) (w : Wd) (k : Nat) (hk : k + 3 ≤ N) (wd hg lw : Nat) (ga ma : Nat → Int32) (hp : isPic G b w k wd hg lw ga ma) (way line place : Nat) (hw : way < 2) (hl : line < li way wd hg) (hq : place < br way wd hg) : CI l yX3_standingCost cX3_standingCost 5 (some .int) 2 G b N w [.ref (b + k), .int (nI way), .int (nI line), .int (nI place)] (fun r w2 => r = stS lw (br way wd hg) (li way wd hg) (vg way ga) (vg way ma) line place ∧ w2 = w) := by
  obtain ⟨e0, e1, e2, q1, q2, q3, q4, q5⟩ := hp
  have hbr := br_or way wd hg
  have hli := li_or way wd hg
  refine CI_of (L0 := [some (.ref (b + k)), some (.int (nI way)), some (.int (nI line)), some (.int (nI place)), none]) (by decide) rfl (by simp [Value.category]) rfl (Nat.le_of_ble_eq_true rfl) rfl (fun κ X ret => ?_)
  refine r_aload_n X eX3_standingCost_0 rfl ?_
  refine r_iload_n X eX3_standingCost_1 rfl ?_
  refine r_iload_n X eX3_standingCost_2 rfl ?_
  refine r_iload_n X eX3_standingCost_3 rfl ?_
  refine cp_X3_54 X eX3_standingCost_4 (c_X3_extraAt _ G b N w k hk wd hg lw ga ma ⟨e0, e1, e2, q1, q2, q3, q4, q5⟩ way line place (by omega) (by omega) (by omega)) (by decide) (by omega) e0 rfl (Nat.le_of_ble_eq_true rfl) ?_
  refine r_aload_n X eX3_standingCost_7 rfl ?_
  refine r_iload_n X eX3_standingCost_8 rfl ?_
  refine r_iload_n X eX3_standingCost_9 rfl ?_
  refine r_iload_n X eX3_standingCost_10 rfl ?_
  refine cp_X3_48 X eX3_standingCost_11 (c_X3_gapAt _ G b N w k hk wd hg lw ga ma ⟨e0, e1, e2, q1, q2, q3, q4, q5⟩ way line place (by omega) (by omega) (by omega)) (by decide) (by omega) e0 rfl (Nat.le_of_ble_eq_true rfl) ?_
  refine r_iadd X eX3_standingCost_14 ((exS (vg way ma) line place) + (gapS (br way wd hg) (vg way ga) line place)) rfl ?_
  refine r_istore X eX3_standingCost_15 (Nat.le_of_ble_eq_true rfl) (L2 := [some (.ref (b + k)), some (.int (nI way)), some (.int (nI line)), some (.int (nI place)), some (.int ((exS (vg way ma) line place) + (gapS (br way wd hg) (vg way ga) line place)))]) rfl ?_
  refine r_aload_n X eX3_standingCost_17 rfl ?_
  refine gf_X3_25 X eX3_standingCost_18 (by omega) e0 ?_
  refine r_if_ne (tgt := 38) X eX3_standingCost_21 (by decide) (nI_toInt (by omega)) (fun c_1 => ?_) (fun c_1 => ?_)
  ·
    refine r_iload X eX3_standingCost_38 rfl ?_
    exact ret _ _ _ _ _ eX3_standingCost_40 (⟨stS_1 (by omega), rfl⟩)
  ·
    refine r_iload X eX3_standingCost_24 rfl ?_
    refine r_aload_n X eX3_standingCost_26 rfl ?_
    refine r_iconst X eX3_standingCost_27 (nI 1) (by decide) ?_
    refine r_iload_n X eX3_standingCost_28 rfl ?_
    refine r_isub X eX3_standingCost_29 (nI (1 - way)) (pk_sub (by omega)) ?_
    refine r_iload_n X eX3_standingCost_30 rfl ?_
    refine r_iload_n X eX3_standingCost_31 rfl ?_
    refine cp_X3_48 X eX3_standingCost_32 (c_X3_gapAt _ G b N w k hk wd hg lw ga ma ⟨e0, e1, e2, q1, q2, q3, q4, q5⟩ (1 - way) place line (by omega) (by rw [li_sw hw]; omega) (by rw [br_sw hw]; omega)) (by decide) (by omega) e0 rfl (Nat.le_of_ble_eq_true rfl) ?_
    refine r_iadd X eX3_standingCost_35 (((exS (vg way ma) line place) + (gapS (br way wd hg) (vg way ga) line place)) + (gapS (br (1 - way) wd hg) (vg (1 - way) ga) place line)) rfl ?_
    refine r_istore X eX3_standingCost_36 (Nat.le_of_ble_eq_true rfl) (L2 := [some (.ref (b + k)), some (.int (nI way)), some (.int (nI line)), some (.int (nI place)), some (.int (((exS (vg way ma) line place) + (gapS (br way wd hg) (vg way ga) line place)) + (gapS (br (1 - way) wd hg) (vg (1 - way) ga) place line)))]) rfl ?_
    refine r_iload X eX3_standingCost_38 rfl ?_
    exact ret _ _ _ _ _ eX3_standingCost_40 (⟨stS_0 hw (by omega), rfl⟩)
set_option maxHeartbeats 4000000 in
set_option maxRecDepth 100000 in
theorem c_X3_turningCost (l : Launch) (G : Gs) (b N : Nat) (w : Wd) (k : Nat) (hk : k + 3 ≤ N) (wd hg lw : Nat) (ga ma : Nat → Int32) (hp : isPic G b w k wd hg lw ga ma) (way line place : Nat) (hw : way < 2) (hl : line < li way wd hg) (hq : place < br way wd hg) (fr : Nat) (hf : fr < br way wd hg) : CI l yX3_turningCost cX3_turningCost 7 (some .int) 1 G b N w [.ref (b + k), .int (nI way), .int (nI line), .int (nI place), .int (nI fr)] (fun r w2 => r = tuS lw (br way wd hg) (vg way ga) line place fr ∧ w2 = w) := by
  obtain ⟨e0, e1, e2, q1, q2, q3, q4, q5⟩ := hp
  have hbr := br_or way wd hg
  have hli := li_or way wd hg
  refine CI_of (L0 := [some (.ref (b + k)), some (.int (nI way)), some (.int (nI line)), some (.int (nI place)), some (.int (nI fr)), none, none]) (by decide) rfl (by simp [Value.category]) rfl (Nat.le_of_ble_eq_true rfl) rfl (fun κ X ret => ?_)
  refine r_aload_n X eX3_turningCost_0 rfl ?_
  refine gf_X3_25 X eX3_turningCost_1 (by omega) e0 ?_
  refine r_if_eq (tgt := 13) X eX3_turningCost_4 (by decide) (nI_toInt (by omega)) (fun c_1 => ?_) (fun c_1 => ?_)
  ·
    refine r_iconst X eX3_turningCost_13 (nI 0) (by decide) ?_
    exact ret _ _ _ _ _ eX3_turningCost_14 (⟨(tuS_0 (by omega)).symm, rfl⟩)
  ·
    refine r_iload X eX3_turningCost_7 rfl ?_
    refine r_iload_n X eX3_turningCost_9 rfl ?_
    refine r_icmp_ne (tgt := 15) X eX3_turningCost_10 (by decide) (nI_toInt (by omega)) (nI_toInt (by omega)) (fun c_2 => ?_) (fun c_2 => ?_)
    ·
      refine r_iload X eX3_turningCost_15 rfl ?_
      refine r_iload_n X eX3_turningCost_17 rfl ?_
      refine r_icmp_ge (tgt := 31) X eX3_turningCost_18 (by decide) (nI_toInt (by omega)) (nI_toInt (by omega)) (fun c_3 => ?_) (fun c_3 => ?_)
      ·
        refine r_iload_n X eX3_turningCost_31 rfl ?_
        refine r_iconst X eX3_turningCost_32 (nI 1) (by decide) ?_
        refine r_iadd X eX3_turningCost_33 (nI (place + 1)) (addN (by omega)) ?_
        refine r_aload_n X eX3_turningCost_34 rfl ?_
        refine r_iload_n X eX3_turningCost_35 rfl ?_
        refine cp_X3_38 X eX3_turningCost_36 (c_X3_breadth _ G b N w k hk wd hg lw ga ma ⟨e0, e1, e2, q1, q2, q3, q4, q5⟩ way (by omega)) (by decide) (by omega) e0 rfl (Nat.le_of_ble_eq_true rfl) ?_
        refine r_iconst X eX3_turningCost_39 (nI 1) (by decide) ?_
        refine r_isub X eX3_turningCost_40 (nI ((br way wd hg) - 1)) (pk_sub (by omega)) ?_
        refine mn_X3_42 X eX3_turningCost_41 rfl (Nat.le_of_ble_eq_true rfl) (nI (min (place + 1) ((br way wd hg) - 1))) (minN (by omega) (by omega)) ?_
        refine r_istore X eX3_turningCost_44 (Nat.le_of_ble_eq_true rfl) (L2 := [some (.ref (b + k)), some (.int (nI way)), some (.int (nI line)), some (.int (nI place)), some (.int (nI fr)), some (.int (nI (min (place + 1) ((br way wd hg) - 1)))), none]) rfl ?_
        refine r_iload_n X eX3_turningCost_46 rfl ?_
        refine r_iconst X eX3_turningCost_47 (nI 1) (by decide) ?_
        refine r_isub X eX3_turningCost_48 (nP line) (subP _) ?_
        refine r_iconst X eX3_turningCost_49 (nI 0) (by decide) ?_
        refine mx_X3_32 X eX3_turningCost_50 rfl (Nat.le_of_ble_eq_true rfl) (nI (line - 1)) (maxP (by omega)) ?_
        refine r_istore X eX3_turningCost_53 (Nat.le_of_ble_eq_true rfl) (L2 := [some (.ref (b + k)), some (.int (nI way)), some (.int (nI line)), some (.int (nI place)), some (.int (nI fr)), some (.int (nI (min (place + 1) ((br way wd hg) - 1)))), some (.int (nI (line - 1)))]) rfl ?_
        refine r_aload_n X eX3_turningCost_55 rfl ?_
        refine gf_X3_18 X eX3_turningCost_56 (by omega) e0 ?_
        refine r_iload_n X eX3_turningCost_59 rfl ?_
        refine r_iload X eX3_turningCost_60 rfl ?_
        refine r_iload_n X eX3_turningCost_62 rfl ?_
        refine cp_X3_28 X eX3_turningCost_63 (c_X3_index _ G b N w way (line - 1) place (by omega) (by omega) (by omega)) (by decide) rfl (Nat.le_of_ble_eq_true rfl) ?_
        refine r_iald X eX3_turningCost_66 (by omega) e1 (ix_lt (by omega) (by omega)) (by decide) ?_
        refine r_aload_n X eX3_turningCost_67 rfl ?_
        refine gf_X3_18 X eX3_turningCost_68 (by omega) e0 ?_
        refine r_iload_n X eX3_turningCost_71 rfl ?_
        refine r_iload_n X eX3_turningCost_72 rfl ?_
        refine r_iload X eX3_turningCost_73 rfl ?_
        refine cp_X3_28 X eX3_turningCost_75 (c_X3_index _ G b N w way line (min (place + 1) ((br way wd hg) - 1)) (by omega) (by omega) (by omega)) (by decide) rfl (Nat.le_of_ble_eq_true rfl) ?_
        refine r_iald X eX3_turningCost_78 (by omega) e1 (ix_lt (by omega) (by omega)) (by decide) ?_
        refine r_isub X eX3_turningCost_79 ((ga (ix way (line - 1) place)) - (ga (ix way line (min (place + 1) ((br way wd hg) - 1))))) rfl ?_
        refine ab_X3_45 X eX3_turningCost_80 rfl (Nat.le_of_ble_eq_true rfl) (iab ((ga (ix way (line - 1) place)) - (ga (ix way line (min (place + 1) ((br way wd hg) - 1)))))) rfl ?_
        exact ret _ _ _ _ _ eX3_turningCost_83 (⟨tuS_r (by omega) (by omega) (by omega), rfl⟩)
      ·
        refine r_iload_n X eX3_turningCost_21 rfl ?_
        refine r_iconst X eX3_turningCost_22 (nI 1) (by decide) ?_
        refine r_isub X eX3_turningCost_23 (nP place) (subP _) ?_
        refine r_iconst X eX3_turningCost_24 (nI 0) (by decide) ?_
        refine mx_X3_32 X eX3_turningCost_25 rfl (Nat.le_of_ble_eq_true rfl) (nI (place - 1)) (maxP (by omega)) ?_
        refine r_goto (tgt := 44) X eX3_turningCost_28 (by decide) ?_
        refine r_istore X eX3_turningCost_44 (Nat.le_of_ble_eq_true rfl) (L2 := [some (.ref (b + k)), some (.int (nI way)), some (.int (nI line)), some (.int (nI place)), some (.int (nI fr)), some (.int (nI (place - 1))), none]) rfl ?_
        refine r_iload_n X eX3_turningCost_46 rfl ?_
        refine r_iconst X eX3_turningCost_47 (nI 1) (by decide) ?_
        refine r_isub X eX3_turningCost_48 (nP line) (subP _) ?_
        refine r_iconst X eX3_turningCost_49 (nI 0) (by decide) ?_
        refine mx_X3_32 X eX3_turningCost_50 rfl (Nat.le_of_ble_eq_true rfl) (nI (line - 1)) (maxP (by omega)) ?_
        refine r_istore X eX3_turningCost_53 (Nat.le_of_ble_eq_true rfl) (L2 := [some (.ref (b + k)), some (.int (nI way)), some (.int (nI line)), some (.int (nI place)), some (.int (nI fr)), some (.int (nI (place - 1))), some (.int (nI (line - 1)))]) rfl ?_
        refine r_aload_n X eX3_turningCost_55 rfl ?_
        refine gf_X3_18 X eX3_turningCost_56 (by omega) e0 ?_
        refine r_iload_n X eX3_turningCost_59 rfl ?_
        refine r_iload X eX3_turningCost_60 rfl ?_
        refine r_iload_n X eX3_turningCost_62 rfl ?_
        refine cp_X3_28 X eX3_turningCost_63 (c_X3_index _ G b N w way (line - 1) place (by omega) (by omega) (by omega)) (by decide) rfl (Nat.le_of_ble_eq_true rfl) ?_
        refine r_iald X eX3_turningCost_66 (by omega) e1 (ix_lt (by omega) (by omega)) (by decide) ?_
        refine r_aload_n X eX3_turningCost_67 rfl ?_
        refine gf_X3_18 X eX3_turningCost_68 (by omega) e0 ?_
        refine r_iload_n X eX3_turningCost_71 rfl ?_
        refine r_iload_n X eX3_turningCost_72 rfl ?_
        refine r_iload X eX3_turningCost_73 rfl ?_
        refine cp_X3_28 X eX3_turningCost_75 (c_X3_index _ G b N w way line (place - 1) (by omega) (by omega) (by omega)) (by decide) rfl (Nat.le_of_ble_eq_true rfl) ?_
        refine r_iald X eX3_turningCost_78 (by omega) e1 (ix_lt (by omega) (by omega)) (by decide) ?_
        refine r_isub X eX3_turningCost_79 ((ga (ix way (line - 1) place)) - (ga (ix way line (place - 1)))) rfl ?_
        refine ab_X3_45 X eX3_turningCost_80 rfl (Nat.le_of_ble_eq_true rfl) (iab ((ga (ix way (line - 1) place)) - (ga (ix way line (place - 1))))) rfl ?_
        exact ret _ _ _ _ _ eX3_turningCost_83 (⟨tuS_l (by omega) (by omega), rfl⟩)
    ·
      refine r_iconst X eX3_turningCost_13 (nI 0) (by decide) ?_
      exact ret _ _ _ _ _ eX3_turningCost_14 (⟨(tuS_0 (by omega)).symm, rfl⟩)
