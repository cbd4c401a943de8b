theorem sm_eq {f : Nat → Int32} {n m : Nat} (h : n = m) : sm f n = sm f m := by rw [h]
theorem nI_m1 {a : Nat} (h : 0 < a) : nI a + (-1 : Int32) = nI (a - 1) := (dec_nI a).trans (nP_pos h)
set_option maxHeartbeats 4000000 in
set_option maxRecDepth 100000 in
theorem c_X3_lightestInRow (l : Launch) (G : Gs) (b N : Nat) (w : Wd) (k : Nat) (hk : k + 3 ≤ N) (wd hg lw : Nat) (ga ma : Nat → Int32) (hp : isPic G b w k wd hg lw ga ma) (y : Nat) (ha : y < hg) : CI l yX3_lightestInRow cX3_lightestInRow 4 (some .int) 4 G b N w [.ref (b + k), .int (nI y)] (fun r w2 => r = nI (am (fun j => wtS wd hg (vg 0 ga) (vg 0 ma) y j) 0 (wd - 1)) ∧ w2 = w) := by
  obtain ⟨e0, e1, e2, q1, q2, q3, q4, q5⟩ := hp
  refine CI_of (L0 := [some (.ref (b + k)), some (.int (nI y)), none, none]) (by decide) rfl (by simp [Value.category]) rfl (Nat.le_of_ble_eq_true rfl) rfl (fun κ X ret => ?_)
  refine r_iconst X eX3_lightestInRow_0 (nI 0) (by decide) ?_
  refine r_istore_n X eX3_lightestInRow_1 (Nat.le_of_ble_eq_true rfl) (L2 := [some (.ref (b + k)), some (.int (nI y)), some (.int (nI 0)), none]) rfl ?_
  refine r_iconst X eX3_lightestInRow_2 (nI 1) (by decide) ?_
  refine r_istore_n X eX3_lightestInRow_3 (Nat.le_of_ble_eq_true rfl) (L2 := [some (.ref (b + k)), some (.int (nI y)), some (.int (nI 0)), some (.int (nI 1))]) rfl ?_
  have lp1 : ∀ (fu : Nat) (i v : Nat), (i + 1 ≤ wd) → (v = am (fun j => wtS wd hg (vg 0 ga) (vg 0 ma) y j) 0 i) → (v ≤ i) → wd - i < fu → V κ G b (N, 0, 0) w 4 [some (.ref (b + k)), some (.int (nI y)), some (.int (nI v)), some (.int (nI (i + 1)))] [] := by
    intro fu
    induction fu with
    | zero => intro i v hi hv hvl hm; exact absurd hm (Nat.not_lt_zero _)
    | succ fu ih1 =>
      intro i v hi hv hvl hm
      refine r_iload_n X eX3_lightestInRow_4 rfl ?_
      refine r_aload_n X eX3_lightestInRow_5 rfl ?_
      refine gf_X3_9 X eX3_lightestInRow_6 (by omega) e0 ?_
      refine r_icmp_ge (tgt := 35) X eX3_lightestInRow_9 (by decide) (nI_toInt (by omega)) (nI_toInt (by omega)) (fun c_2 => ?_) (fun c_2 => ?_)
      ·
        refine r_iload_n X eX3_lightestInRow_35 rfl ?_
        exact ret _ _ _ _ _ eX3_lightestInRow_36 (⟨congrArg nI (by rw [hv]; congr 1; omega), rfl⟩)
      ·
        refine r_aload_n X eX3_lightestInRow_12 rfl ?_
        refine r_iload_n X eX3_lightestInRow_13 rfl ?_
        refine r_iload_n X eX3_lightestInRow_14 rfl ?_
        refine cp_X3_57 X eX3_lightestInRow_15 (c_X3_weightAt _ G b N w k hk wd hg lw ga ma ⟨e0, e1, e2, q1, q2, q3, q4, q5⟩ (i + 1) y (by omega) (by omega)) (by decide) (by omega) e0 rfl (Nat.le_of_ble_eq_true rfl) ?_
        refine r_aload_n X eX3_lightestInRow_18 rfl ?_
        refine r_iload_n X eX3_lightestInRow_19 rfl ?_
        refine r_iload_n X eX3_lightestInRow_20 rfl ?_
        refine cp_X3_57 X eX3_lightestInRow_21 (c_X3_weightAt _ G b N w k hk wd hg lw ga ma ⟨e0, e1, e2, q1, q2, q3, q4, q5⟩ v y (by omega) (by omega)) (by decide) (by omega) e0 rfl (Nat.le_of_ble_eq_true rfl) ?_
        refine r_icmp_ge (tgt := 29) X eX3_lightestInRow_24 (by decide) rfl rfl (fun c_3 => ?_) (fun c_3 => ?_)
        ·
          refine r_iinc X eX3_lightestInRow_29 rfl (nI (i + 2)) (inc_nI _) (L2 := [some (.ref (b + k)), some (.int (nI y)), some (.int (nI v)), some (.int (nI (i + 2)))]) rfl ?_
          refine r_goto (tgt := 4) X eX3_lightestInRow_32 (by decide) ?_
          exact ih1 (i + 1) v  (by omega) (am_f (f := fun j => wtS wd hg (vg 0 ga) (vg 0 ma) y j) hv c_3) (by omega)  (by omega)
        ·
          refine r_iload_n X eX3_lightestInRow_27 rfl ?_
          refine r_istore_n X eX3_lightestInRow_28 (Nat.le_of_ble_eq_true rfl) (L2 := [some (.ref (b + k)), some (.int (nI y)), some (.int (nI (i + 1))), some (.int (nI (i + 1)))]) rfl ?_
          refine r_iinc X eX3_lightestInRow_29 rfl (nI (i + 2)) (inc_nI _) (L2 := [some (.ref (b + k)), some (.int (nI y)), some (.int (nI (i + 1))), some (.int (nI (i + 2)))]) rfl ?_
          refine r_goto (tgt := 4) X eX3_lightestInRow_32 (by decide) ?_
          exact ih1 (i + 1) (i + 1)  (by omega) (am_t (f := fun j => wtS wd hg (vg 0 ga) (vg 0 ma) y j) hv c_3) (by omega)  (by omega)
  exact lp1 _ 0 0  (by omega) rfl (by omega)  (Nat.lt_succ_self _)
set_option maxHeartbeats 4000000 in
set_option maxRecDepth 100000 in
theorem c_X3_lightestInColumn (l : Launch) (G : Gs) (b N : Nat) (w : Wd) (k : Nat) (hk : k + 3 ≤ N) (wd hg lw : Nat) (ga ma : Nat → Int32) (hp : isPic G b w k wd hg lw ga ma) (x : Nat) (ha : x < wd) : CI l yX3_lightestInColumn cX3_lightestInColumn 4 (some .int) 4 G b N w [.ref (b + k), .int (nI x)] (fun r w2 => r = nI (am (fun j => wtS wd hg (vg 0 ga) (vg 0 ma) j x) 0 (hg - 1)) ∧ w2 = w) := by
  obtain ⟨e0, e1, e2, q1, q2, q3, q4, q5⟩ := hp
  refine CI_of (L0 := [some (.ref (b + k)), some (.int (nI x)), none, none]) (by decide) rfl (by simp [Value.category]) rfl (Nat.le_of_ble_eq_true rfl) rfl (fun κ X ret => ?_)
  refine r_iconst X eX3_lightestInColumn_0 (nI 0) (by decide) ?_
  refine r_istore_n X eX3_lightestInColumn_1 (Nat.le_of_ble_eq_true rfl) (L2 := [some (.ref (b + k)), some (.int (nI x)), some (.int (nI 0)), none]) rfl ?_
  refine r_iconst X eX3_lightestInColumn_2 (nI 1) (by decide) ?_
  refine r_istore_n X eX3_lightestInColumn_3 (Nat.le_of_ble_eq_true rfl) (L2 := [some (.ref (b + k)), some (.int (nI x)), some (.int (nI 0)), some (.int (nI 1))]) rfl ?_
  have lp1 : ∀ (fu : Nat) (i v : Nat), (i + 1 ≤ hg) → (v = am (fun j => wtS wd hg (vg 0 ga) (vg 0 ma) j x) 0 i) → (v ≤ i) → hg - i < fu → V κ G b (N, 0, 0) w 4 [some (.ref (b + k)), some (.int (nI x)), some (.int (nI v)), some (.int (nI (i + 1)))] [] := by
    intro fu
    induction fu with
    | zero => intro i v hi hv hvl hm; exact absurd hm (Nat.not_lt_zero _)
    | succ fu ih1 =>
      intro i v hi hv hvl hm
      refine r_iload_n X eX3_lightestInColumn_4 rfl ?_
      refine r_aload_n X eX3_lightestInColumn_5 rfl ?_
      refine gf_X3_15 X eX3_lightestInColumn_6 (by omega) e0 ?_
      refine r_icmp_ge (tgt := 35) X eX3_lightestInColumn_9 (by decide) (nI_toInt (by omega)) (nI_toInt (by omega)) (fun c_2 => ?_) (fun c_2 => ?_)
      ·
        refine r_iload_n X eX3_lightestInColumn_35 rfl ?_
        exact ret _ _ _ _ _ eX3_lightestInColumn_36 (⟨congrArg nI (by rw [hv]; congr 1; omega), rfl⟩)
      ·
        refine r_aload_n X eX3_lightestInColumn_12 rfl ?_
        refine r_iload_n X eX3_lightestInColumn_13 rfl ?_
        refine r_iload_n X eX3_lightestInColumn_14 rfl ?_
        refine cp_X3_57 X eX3_lightestInColumn_15 (c_X3_weightAt _ G b N w k hk wd hg lw ga ma ⟨e0, e1, e2, q1, q2, q3, q4, q5⟩ x (i + 1) (by omega) (by omega)) (by decide) (by omega) e0 rfl (Nat.le_of_ble_eq_true rfl) ?_
        refine r_aload_n X eX3_lightestInColumn_18 rfl ?_
        refine r_iload_n X eX3_lightestInColumn_19 rfl ?_
        refine r_iload_n X eX3_lightestInColumn_20 rfl ?_
        refine cp_X3_57 X eX3_lightestInColumn_21 (c_X3_weightAt _ G b N w k hk wd hg lw ga ma ⟨e0, e1, e2, q1, q2, q3, q4, q5⟩ x v (by omega) (by omega)) (by decide) (by omega) e0 rfl (Nat.le_of_ble_eq_true rfl) ?_
        refine r_icmp_ge (tgt := 29) X eX3_lightestInColumn_24 (by decide) rfl rfl (fun c_3 => ?_) (fun c_3 => ?_)
        ·
          refine r_iinc X eX3_lightestInColumn_29 rfl (nI (i + 2)) (inc_nI _) (L2 := [some (.ref (b + k)), some (.int (nI x)), some (.int (nI v)), some (.int (nI (i + 2)))]) rfl ?_
          refine r_goto (tgt := 4) X eX3_lightestInColumn_32 (by decide) ?_
          exact ih1 (i + 1) v  (by omega) (am_f (f := fun j => wtS wd hg (vg 0 ga) (vg 0 ma) j x) hv c_3) (by omega)  (by omega)
        ·
          refine r_iload_n X eX3_lightestInColumn_27 rfl ?_
          refine r_istore_n X eX3_lightestInColumn_28 (Nat.le_of_ble_eq_true rfl) (L2 := [some (.ref (b + k)), some (.int (nI x)), some (.int (nI (i + 1))), some (.int (nI (i + 1)))]) rfl ?_
          refine r_iinc X eX3_lightestInColumn_29 rfl (nI (i + 2)) (inc_nI _) (L2 := [some (.ref (b + k)), some (.int (nI x)), some (.int (nI (i + 1))), some (.int (nI (i + 2)))]) rfl ?_
          refine r_goto (tgt := 4) X eX3_lightestInColumn_32 (by decide) ?_
          exact ih1 (i + 1) (i + 1)  (by omega) (am_t (f := fun j => wtS wd hg (vg 0 ga) (vg 0 ma) j x) hv c_3) (by omega)  (by omega)
  exact lp1 _ 0 0  (by omega) rfl (by omega)  (Nat.lt_succ_self _)
set_option maxHeartbeats 4000000 in
set_option maxRecDepth 100000 in
theorem c_X3_sumOfGreys (l : Launch) (G : Gs) (b N : Nat) (w : Wd) (k : Nat) (hk : k + 3 ≤ N) (wd hg lw : Nat) (ga ma : Nat → Int32) (hp : isPic G b w k wd hg lw ga ma) : CI l yX3_sumOfGreys cX3_sumOfGreys 4 (some .int) 2 G b N w [.ref (b + k)] (fun r w2 => r = sm (fun y => sm (vg 0 ga y) wd) hg ∧ w2 = w) := by
  obtain ⟨e0, e1, e2, q1, q2, q3, q4, q5⟩ := hp
  refine CI_of (L0 := [some (.ref (b + k)), none, none, none]) (by decide) rfl (by simp [Value.category]) rfl (Nat.le_of_ble_eq_true rfl) rfl (fun κ X ret => ?_)
  refine r_iconst X eX3_sumOfGreys_0 ((0 : Int32)) (by decide) ?_
  refine r_istore_n X eX3_sumOfGreys_1 (Nat.le_of_ble_eq_true rfl) (L2 := [some (.ref (b + k)), some (.int ((0 : Int32))), none, none]) rfl ?_
  refine r_iconst X eX3_sumOfGreys_2 (nI 0) (by decide) ?_
  refine r_istore_n X eX3_sumOfGreys_3 (Nat.le_of_ble_eq_true rfl) (L2 := [some (.ref (b + k)), some (.int ((0 : Int32))), some (.int (nI 0)), none]) rfl ?_
  have lp1 : ∀ (fu : Nat) (y : Nat) (c : Int32), (y ≤ hg) → (c = sm (fun y => sm (vg 0 ga y) wd) y) → hg - y < fu → V κ G b (N, 0, 0) w 4 [some (.ref (b + k)), some (.int c), some (.int (nI y)), none] [] := by
    intro fu
    induction fu with
    | zero => intro y c hy hc hm; exact absurd hm (Nat.not_lt_zero _)
    | succ fu ih1 =>
      intro y c hy hc hm
      refine r_iload_n X eX3_sumOfGreys_4 rfl ?_
      refine r_aload_n X eX3_sumOfGreys_5 rfl ?_
      refine gf_X3_15 X eX3_sumOfGreys_6 (by omega) e0 ?_
      refine r_icmp_ge (tgt := 44) X eX3_sumOfGreys_9 (by decide) (nI_toInt (by omega)) (nI_toInt (by omega)) (fun c_2 => ?_) (fun c_2 => ?_)
      ·
        refine r_iload_n X eX3_sumOfGreys_44 rfl ?_
        exact ret _ _ _ _ _ eX3_sumOfGreys_45 (⟨hc.trans (sm_eq (by omega)), rfl⟩)
      ·
        refine r_iconst X eX3_sumOfGreys_12 (nI 0) (by decide) ?_
        refine r_istore_n X eX3_sumOfGreys_13 (Nat.le_of_ble_eq_true rfl) (L2 := [some (.ref (b + k)), some (.int c), some (.int (nI y)), some (.int (nI 0))]) rfl ?_
        have lp3 : ∀ (fu : Nat) (x : Nat) (d : Int32), (x ≤ wd) → (d = c + sm (vg 0 ga y) x) → wd - x < fu → V κ G b (N, 0, 0) w 14 [some (.ref (b + k)), some (.int d), some (.int (nI y)), some (.int (nI x))] [] := by
          intro fu
          induction fu with
          | zero => intro x d hx hd hm; exact absurd hm (Nat.not_lt_zero _)
          | succ fu ih3 =>
            intro x d hx hd hm
            refine r_iload_n X eX3_sumOfGreys_14 rfl ?_
            refine r_aload_n X eX3_sumOfGreys_15 rfl ?_
            refine gf_X3_9 X eX3_sumOfGreys_16 (by omega) e0 ?_
            refine r_icmp_ge (tgt := 38) X eX3_sumOfGreys_19 (by decide) (nI_toInt (by omega)) (nI_toInt (by omega)) (fun c_4 => ?_) (fun c_4 => ?_)
            ·
              refine r_iinc X eX3_sumOfGreys_38 rfl (nI (y + 1)) (inc_nI _) (L2 := [some (.ref (b + k)), some (.int d), some (.int (nI (y + 1))), some (.int (nI x))]) rfl ?_
              refine r_goto (tgt := 4) X eX3_sumOfGreys_41 (by decide) ?_
              refine r_fg 3 (L2 := [some (.ref (b + k)), some (.int d), some (.int (nI (y + 1))), none]) rfl ?_
              exact ih1 (y + 1) d  (by omega) (by rw [hd, hc, sm_eq (show x = wd by omega)]; rfl)  (by omega)
            ·
              refine r_iload_n X eX3_sumOfGreys_22 rfl ?_
              refine r_aload_n X eX3_sumOfGreys_23 rfl ?_
              refine r_iconst X eX3_sumOfGreys_24 (nI 0) (by decide) ?_
              refine r_iload_n X eX3_sumOfGreys_25 rfl ?_
              refine r_iload_n X eX3_sumOfGreys_26 rfl ?_
              refine cp_X3_60 X eX3_sumOfGreys_27 (c_X3_greyAt _ G b N w k hk wd hg lw ga ma ⟨e0, e1, e2, q1, q2, q3, q4, q5⟩ 0 y x (by omega) (by omega) (by omega)) (by decide) (by omega) e0 rfl (Nat.le_of_ble_eq_true rfl) ?_
              refine r_iadd X eX3_sumOfGreys_30 (d + (vg 0 ga y x)) rfl ?_
              refine r_istore_n X eX3_sumOfGreys_31 (Nat.le_of_ble_eq_true rfl) (L2 := [some (.ref (b + k)), some (.int (d + (vg 0 ga y x))), some (.int (nI y)), some (.int (nI x))]) rfl ?_
              refine r_iinc X eX3_sumOfGreys_32 rfl (nI (x + 1)) (inc_nI _) (L2 := [some (.ref (b + k)), some (.int (d + (vg 0 ga y x))), some (.int (nI y)), some (.int (nI (x + 1)))]) rfl ?_
              refine r_goto (tgt := 14) X eX3_sumOfGreys_35 (by decide) ?_
              exact ih3 (x + 1) (d + (vg 0 ga y x))  (by omega) (by rw [hd, Int32.add_assoc]; rfl)  (by omega)
        exact lp3 _ 0 c  (by omega) (Int32.add_zero c).symm  (Nat.lt_succ_self _)
  exact lp1 _ 0 0  (by omega) rfl  (Nat.lt_succ_self _)
set_option maxHeartbeats 4000000 in
set_option maxRecDepth 100000 in
theorem c_X3_dotsMarked (l : Launch) (G : Gs) (b N : Nat) (w : Wd) (k : Nat) (hk : k + 3 ≤ N) (wd hg lw : Nat) (ga ma : Nat → Int32) (hp : isPic G b w k wd hg lw ga ma) (m : Int32) : CI l yX3_dotsMarked cX3_dotsMarked 5 (some .int) 2 G b N w [.ref (b + k), .int m] (fun r w2 => r = sm (fun y => sm (fun x => if vg 0 ma y x = m then 1 else 0) wd) hg ∧ w2 = w) := by
  obtain ⟨e0, e1, e2, q1, q2, q3, q4, q5⟩ := hp
  refine CI_of (L0 := [some (.ref (b + k)), some (.int m), none, none, none]) (by decide) rfl (by simp [Value.category]) rfl (Nat.le_of_ble_eq_true rfl) rfl (fun κ X ret => ?_)
  refine r_iconst X eX3_dotsMarked_0 ((0 : Int32)) (by decide) ?_
  refine r_istore_n X eX3_dotsMarked_1 (Nat.le_of_ble_eq_true rfl) (L2 := [some (.ref (b + k)), some (.int m), some (.int ((0 : Int32))), none, none]) rfl ?_
  refine r_iconst X eX3_dotsMarked_2 (nI 0) (by decide) ?_
  refine r_istore_n X eX3_dotsMarked_3 (Nat.le_of_ble_eq_true rfl) (L2 := [some (.ref (b + k)), some (.int m), some (.int ((0 : Int32))), some (.int (nI 0)), none]) rfl ?_
  have lp1 : ∀ (fu : Nat) (y : Nat) (c : Int32), (y ≤ hg) → (c = sm (fun y => sm (fun x => if vg 0 ma y x = m then 1 else 0) wd) y) → hg - y < fu → V κ G b (N, 0, 0) w 4 [some (.ref (b + k)), some (.int m), some (.int c), some (.int (nI y)), none] [] := by
    intro fu
    induction fu with
    | zero => intro y c hy hc hm; exact absurd hm (Nat.not_lt_zero _)
    | succ fu ih1 =>
      intro y c hy hc hm
      refine r_iload_n X eX3_dotsMarked_4 rfl ?_
      refine r_aload_n X eX3_dotsMarked_5 rfl ?_
      refine gf_X3_15 X eX3_dotsMarked_6 (by omega) e0 ?_
      refine r_icmp_ge (tgt := 51) X eX3_dotsMarked_9 (by decide) (nI_toInt (by omega)) (nI_toInt (by omega)) (fun c_2 => ?_) (fun c_2 => ?_)
      ·
        refine r_iload_n X eX3_dotsMarked_51 rfl ?_
        exact ret _ _ _ _ _ eX3_dotsMarked_52 (⟨hc.trans (sm_eq (by omega)), rfl⟩)
      ·
        refine r_iconst X eX3_dotsMarked_12 (nI 0) (by decide) ?_
        refine r_istore X eX3_dotsMarked_13 (Nat.le_of_ble_eq_true rfl) (L2 := [some (.ref (b + k)), some (.int m), some (.int c), some (.int (nI y)), some (.int (nI 0))]) rfl ?_
        have lp3 : ∀ (fu : Nat) (x : Nat) (d : Int32), (x ≤ wd) → (d = c + sm (fun x => if vg 0 ma y x = m then 1 else 0) x) → wd - x < fu → V κ G b (N, 0, 0) w 15 [some (.ref (b + k)), some (.int m), some (.int d), some (.int (nI y)), some (.int (nI x))] [] := by
          intro fu
          induction fu with
          | zero => intro x d hx hd hm; exact absurd hm (Nat.not_lt_zero _)
          | succ fu ih3 =>
            intro x d hx hd hm
            refine r_iload X eX3_dotsMarked_15 rfl ?_
            refine r_aload_n X eX3_dotsMarked_17 rfl ?_
            refine gf_X3_9 X eX3_dotsMarked_18 (by omega) e0 ?_
            refine r_icmp_ge (tgt := 45) X eX3_dotsMarked_21 (by decide) (nI_toInt (by omega)) (nI_toInt (by omega)) (fun c_4 => ?_) (fun c_4 => ?_)
            ·
              refine r_iinc X eX3_dotsMarked_45 rfl (nI (y + 1)) (inc_nI _) (L2 := [some (.ref (b + k)), some (.int m), some (.int d), some (.int (nI (y + 1))), some (.int (nI x))]) rfl ?_
              refine r_goto (tgt := 4) X eX3_dotsMarked_48 (by decide) ?_
              refine r_fg 4 (L2 := [some (.ref (b + k)), some (.int m), some (.int d), some (.int (nI (y + 1))), none]) rfl ?_
              exact ih1 (y + 1) d  (by omega) (by rw [hd, hc, sm_eq (show x = wd by omega)]; rfl)  (by omega)
            ·
              refine r_aload_n X eX3_dotsMarked_24 rfl ?_
              refine r_iconst X eX3_dotsMarked_25 (nI 0) (by decide) ?_
              refine r_iload_n X eX3_dotsMarked_26 rfl ?_
              refine r_iload X eX3_dotsMarked_27 rfl ?_
              refine cp_X3_63 X eX3_dotsMarked_29 (c_X3_markAt _ G b N w k hk wd hg lw ga ma ⟨e0, e1, e2, q1, q2, q3, q4, q5⟩ 0 y x (by omega) (by omega) (by omega)) (by decide) (by omega) e0 rfl (Nat.le_of_ble_eq_true rfl) ?_
              refine r_iload_n X eX3_dotsMarked_32 rfl ?_
              refine r_icmp_ne (tgt := 39) X eX3_dotsMarked_33 (by decide) rfl rfl (fun c_5 => ?_) (fun c_5 => ?_)
              ·
                refine r_iinc X eX3_dotsMarked_39 rfl (nI (x + 1)) (inc_nI _) (L2 := [some (.ref (b + k)), some (.int m), some (.int d), some (.int (nI y)), some (.int (nI (x + 1)))]) rfl ?_
                refine r_goto (tgt := 15) X eX3_dotsMarked_42 (by decide) ?_
                exact ih3 (x + 1) d  (by omega) (by rw [hd, sm, if_neg (fun q => c_5 (congrArg Int32.toInt q)), Int32.add_zero])  (by omega)
              ·
                refine r_iinc X eX3_dotsMarked_36 rfl (d + Int32.ofInt (1)) rfl (L2 := [some (.ref (b + k)), some (.int m), some (.int (d + Int32.ofInt (1))), some (.int (nI y)), some (.int (nI x))]) rfl ?_
                refine r_iinc X eX3_dotsMarked_39 rfl (nI (x + 1)) (inc_nI _) (L2 := [some (.ref (b + k)), some (.int m), some (.int (d + Int32.ofInt (1))), some (.int (nI y)), some (.int (nI (x + 1)))]) rfl ?_
                refine r_goto (tgt := 15) X eX3_dotsMarked_42 (by decide) ?_
                exact ih3 (x + 1) (d + Int32.ofInt (1))  (by omega) (by rw [hd, Int32.add_assoc, sm, if_pos (Int32.toInt_inj.mp c_5)]; rfl)  (by omega)
        exact lp3 _ 0 c  (by omega) (Int32.add_zero c).symm  (Nat.lt_succ_self _)
  exact lp1 _ 0 0  (by omega) rfl  (Nat.lt_succ_self _)
set_option maxHeartbeats 4000000 in
set_option maxRecDepth 100000 in
theorem c_X3_keptDotsOf (l : Launch) (G : Gs) (b N : Nat) (w : Wd) (k : Nat) (hk : k + 3 ≤ N) (wd hg lw : Nat) (ga ma : Nat → Int32) (hp : isPic G b w k wd hg lw ga ma) (ks way : Nat) (hks : ks + 4 ≤ N) (hdj : ks + 4 ≤ k ∨ k + 3 ≤ ks) (hw : way < 2) (tot : Int32) (pl ce go : Nat → Int32) (hs : isSm G b w ks way tot pl ce go) (s : Nat → Nat) (hpl : okP pl s (li way wd hg) (br way wd hg)) : CI l yX3_keptDotsOf cX3_keptDotsOf 4 (some .int) 2 G b N w [.ref (b + k), .ref (b + ks)] (fun r w2 => r = sm (fun l => if vg way ma l (s l) = 1 then 1 else 0) (li way wd hg) ∧ w2 = w) := by
  obtain ⟨e0, e1, e2, q1, q2, q3, q4, q5⟩ := hp
  obtain ⟨f0, f1, f2, f3⟩ := hs
  have hbr := br_or way wd hg
  have hli := li_or way wd hg
  refine CI_of (L0 := [some (.ref (b + k)), some (.ref (b + ks)), none, none]) (by decide) rfl (by simp [Value.category]) rfl (Nat.le_of_ble_eq_true rfl) rfl (fun κ X ret => ?_)
  refine r_iconst X eX3_keptDotsOf_0 ((0 : Int32)) (by decide) ?_
  refine r_istore_n X eX3_keptDotsOf_1 (Nat.le_of_ble_eq_true rfl) (L2 := [some (.ref (b + k)), some (.ref (b + ks)), some (.int ((0 : Int32))), none]) rfl ?_
  refine r_iconst X eX3_keptDotsOf_2 (nI 0) (by decide) ?_
  refine r_istore_n X eX3_keptDotsOf_3 (Nat.le_of_ble_eq_true rfl) (L2 := [some (.ref (b + k)), some (.ref (b + ks)), some (.int ((0 : Int32))), some (.int (nI 0))]) rfl ?_
  have lp1 : ∀ (fu : Nat) (y : Nat) (c : Int32), (y ≤ li way wd hg) → (c = sm (fun l => if vg way ma l (s l) = 1 then 1 else 0) y) → li way wd hg - y < fu → V κ G b (N, 0, 0) w 4 [some (.ref (b + k)), some (.ref (b + ks)), some (.int c), some (.int (nI y))] [] := by
    intro fu
    induction fu with
    | zero => intro y c hy hc hm; exact absurd hm (Nat.not_lt_zero _)
    | succ fu ih1 =>
      intro y c hy hc hm
      refine r_iload_n X eX3_keptDotsOf_4 rfl ?_
      refine r_aload_n X eX3_keptDotsOf_5 rfl ?_
      refine r_aload_n X eX3_keptDotsOf_6 rfl ?_
      refine gf_X3_66 X eX3_keptDotsOf_7 (by omega) f0 ?_
      refine cp_X3_71 X eX3_keptDotsOf_10 (c_X3_lines _ G b N w k hk wd hg lw ga ma ⟨e0, e1, e2, q1, q2, q3, q4, q5⟩ way (by omega)) (by decide) (by omega) e0 rfl (Nat.le_of_ble_eq_true rfl) ?_
      refine r_icmp_ge (tgt := 44) X eX3_keptDotsOf_13 (by decide) (nI_toInt (by omega)) (nI_toInt (by omega)) (fun c_2 => ?_) (fun c_2 => ?_)
      ·
        refine r_iload_n X eX3_keptDotsOf_44 rfl ?_
        exact ret _ _ _ _ _ eX3_keptDotsOf_45 (⟨by rw [hc]; congr 1; omega, rfl⟩)
      ·
        refine r_aload_n X eX3_keptDotsOf_16 rfl ?_
        refine r_aload_n X eX3_keptDotsOf_17 rfl ?_
        refine gf_X3_66 X eX3_keptDotsOf_18 (by omega) f0 ?_
        refine r_iload_n X eX3_keptDotsOf_21 rfl ?_
        refine r_aload_n X eX3_keptDotsOf_22 rfl ?_
        refine gf_X3_74 X eX3_keptDotsOf_23 (by omega) f0 ?_
        refine r_iload_n X eX3_keptDotsOf_26 rfl ?_
        refine r_iald X eX3_keptDotsOf_27 (by omega) f1 (by omega) (by decide) ?_
        refine r_top (y := nI (s y)) (hpl y (by omega)).1 ?_
        have hsy := (hpl y (by omega)).2
        refine cp_X3_63 X eX3_keptDotsOf_28 (c_X3_markAt _ G b N w k hk wd hg lw ga ma ⟨e0, e1, e2, q1, q2, q3, q4, q5⟩ way y (s y) (by omega) (by omega) (by omega)) (by decide) (by omega) e0 rfl (Nat.le_of_ble_eq_true rfl) ?_
        refine r_iconst X eX3_keptDotsOf_31 ((1 : Int32)) (by decide) ?_
        refine r_icmp_ne (tgt := 38) X eX3_keptDotsOf_32 (by decide) rfl rfl (fun c_3 => ?_) (fun c_3 => ?_)
        ·
          refine r_iinc X eX3_keptDotsOf_38 rfl (nI (y + 1)) (inc_nI _) (L2 := [some (.ref (b + k)), some (.ref (b + ks)), some (.int c), some (.int (nI (y + 1)))]) rfl ?_
          refine r_goto (tgt := 4) X eX3_keptDotsOf_41 (by decide) ?_
          exact ih1 (y + 1) c  (by omega) (by rw [hc, sm, if_neg (fun q => c_3 (congrArg Int32.toInt q)), Int32.add_zero])  (by omega)
        ·
          refine r_iinc X eX3_keptDotsOf_35 rfl (c + Int32.ofInt (1)) rfl (L2 := [some (.ref (b + k)), some (.ref (b + ks)), some (.int (c + Int32.ofInt (1))), some (.int (nI y))]) rfl ?_
          refine r_iinc X eX3_keptDotsOf_38 rfl (nI (y + 1)) (inc_nI _) (L2 := [some (.ref (b + k)), some (.ref (b + ks)), some (.int (c + Int32.ofInt (1))), some (.int (nI (y + 1)))]) rfl ?_
          refine r_goto (tgt := 4) X eX3_keptDotsOf_41 (by decide) ?_
          exact ih1 (y + 1) (c + Int32.ofInt (1))  (by omega) (by rw [hc, sm, if_pos (Int32.toInt_inj.mp c_3)]; rfl)  (by omega)
  exact lp1 _ 0 0  (by omega) rfl  (Nat.lt_succ_self _)
set_option maxHeartbeats 4000000 in
set_option maxRecDepth 100000 in
theorem c_X3_moveDot (l : Launch) (G : Gs) (b N : Nat) (w : Wd) (k : Nat) (hk : k + 3 ≤ N) (wd hg lw : Nat) (ga ma : Nat → Int32) (hp : isPic G b w k wd hg lw ga ma) (way line fr to : Nat) (hw : way < 2) (hl : line < 8) (hf : fr < 8) (ht : to < 8) : CV l yX3_moveDot cX3_moveDot 7 1 G b N w [.ref (b + k), .int (nI way), .int (nI line), .int (nI fr), .int (nI to)] (fun w2 => isPic G b w2 k wd hg lw (upd ga (ix way line to) (ga (ix way line fr))) (upd ma (ix way line to) (ma (ix way line fr))) ∧ ∀ j, (j < k ∨ k + 3 ≤ j) → w2 j = w j) := by
  obtain ⟨e0, e1, e2, q1, q2, q3, q4, q5⟩ := hp
  refine CV_of (L0 := [some (.ref (b + k)), some (.int (nI way)), some (.int (nI line)), some (.int (nI fr)), some (.int (nI to)), none, none]) (by decide) rfl (by simp [Value.category]) rfl (Nat.le_of_ble_eq_true rfl) (fun κ X ret => ?_)
  have fr_w : ∀ j, (j < k ∨ k + 3 ≤ j) → w j = w j := fun _ _ => rfl
  refine r_iload_n X eX3_moveDot_0 rfl ?_
  refine r_iload_n X eX3_moveDot_1 rfl ?_
  refine r_iload_n X eX3_moveDot_2 rfl ?_
  refine cp_X3_28 X eX3_moveDot_3 (c_X3_index _ G b N w way line fr (by omega) (by omega) (by omega)) (by decide) rfl (Nat.le_of_ble_eq_true rfl) ?_
  refine r_istore X eX3_moveDot_6 (Nat.le_of_ble_eq_true rfl) (L2 := [some (.ref (b + k)), some (.int (nI way)), some (.int (nI line)), some (.int (nI fr)), some (.int (nI to)), some (.int (nI (ix way line fr))), none]) rfl ?_
  refine r_iload_n X eX3_moveDot_8 rfl ?_
  refine r_iload_n X eX3_moveDot_9 rfl ?_
  refine r_iload X eX3_moveDot_10 rfl ?_
  refine cp_X3_28 X eX3_moveDot_12 (c_X3_index _ G b N w way line to (by omega) (by omega) (by omega)) (by decide) rfl (Nat.le_of_ble_eq_true rfl) ?_
  refine r_istore X eX3_moveDot_15 (Nat.le_of_ble_eq_true rfl) (L2 := [some (.ref (b + k)), some (.int (nI way)), some (.int (nI line)), some (.int (nI fr)), some (.int (nI to)), some (.int (nI (ix way line fr))), some (.int (nI (ix way line to)))]) rfl ?_
  refine r_aload_n X eX3_moveDot_17 rfl ?_
  refine gf_X3_18 X eX3_moveDot_18 (by omega) e0 ?_
  refine r_iload X eX3_moveDot_21 rfl ?_
  refine r_aload_n X eX3_moveDot_23 rfl ?_
  refine gf_X3_18 X eX3_moveDot_24 (by omega) e0 ?_
  refine r_iload X eX3_moveDot_27 rfl ?_
  refine r_iald X eX3_moveDot_29 (by omega) e1 (ix_lt hl hf) (by decide) ?_
  refine r_iast X eX3_moveDot_30 (by omega) e1 (ix_lt hl ht) (by decide) (fun w1 n1_w1 uu1 => ?_)
  have e0_w1 := (uu1 k (by omega)).trans e0
  have e2_w1 := (uu1 (k + 2) (by omega)).trans e2
  have fr_w1 : ∀ j, (j < k ∨ k + 3 ≤ j) → w1 j = w j := fun j hj => (uu1 j (by omega)).trans (fr_w j hj)
  refine r_aload_n X eX3_moveDot_31 rfl ?_
  refine gf_X3_22 X eX3_moveDot_32 (by omega) e0_w1 ?_
  refine r_iload X eX3_moveDot_35 rfl ?_
  refine r_aload_n X eX3_moveDot_37 rfl ?_
  refine gf_X3_22 X eX3_moveDot_38 (by omega) e0_w1 ?_
  refine r_iload X eX3_moveDot_41 rfl ?_
  refine r_iald X eX3_moveDot_43 (by omega) e2_w1 (ix_lt hl hf) (by decide) ?_
  refine r_iast X eX3_moveDot_44 (by omega) e2_w1 (ix_lt hl ht) (by decide) (fun w2 n2_w2 uu2 => ?_)
  have e0_w2 := (uu2 k (by omega)).trans e0_w1
  have n1_w2 := (uu2 (k + 1) (by omega)).trans n1_w1
  have fr_w2 : ∀ j, (j < k ∨ k + 3 ≤ j) → w2 j = w j := fun j hj => (uu2 j (by omega)).trans (fr_w1 j hj)
  exact ret _ _ _ _ eX3_moveDot_45 (⟨⟨e0_w2, n1_w2, n2_w2, q1, q2, q3, q4, q5⟩, fr_w2⟩)
set_option maxHeartbeats 4000000 in
set_option maxRecDepth 100000 in
theorem c_X3_broaden_m (l : Launch) (G : Gs) (b N : Nat) (w : Wd) (k : Nat) (hk : k + 3 ≤ N) (wd hg lw : Nat) (ga ma : Nat → Int32) (hp : isPic G b w k wd hg lw ga ma) (way : Nat) (hw : way < 2) (hb : 2 < br way wd hg) : CV l yX3_broaden cX3_broaden 3 0 G b N w [.ref (b + k), .int (nI way), .int ((-1 : Int32))] (fun w2 => isPic G b w2 k (wd - (1 - way)) (hg - way) lw ga ma ∧ ∀ j, (j < k ∨ k + 3 ≤ j) → w2 j = w j) := by
  obtain ⟨e0, e1, e2, q1, q2, q3, q4, q5⟩ := hp
  refine CV_of (L0 := [some (.ref (b + k)), some (.int (nI way)), some (.int ((-1 : Int32)))]) (by decide) rfl (by simp [Value.category]) rfl (Nat.le_of_ble_eq_true rfl) (fun κ X ret => ?_)
  have fr_w : ∀ j, (j < k ∨ k + 3 ≤ j) → w j = w j := fun _ _ => rfl
  refine r_iload_n X eX3_broaden_0 rfl ?_
  refine r_if_ne (tgt := 17) X eX3_broaden_1 (by decide) (nI_toInt (by omega)) (fun c_1 => ?_) (fun c_1 => ?_)
  ·
    have hw1 : way = 1 := by omega
    subst hw1
    have hb2 : br 1 wd hg = hg := rfl
    refine r_aload_n X eX3_broaden_17 rfl ?_
    refine r_dup X eX3_broaden_18 rfl ?_
    refine gf_X3_15 X eX3_broaden_19 (by omega) e0 ?_
    refine r_iload_n X eX3_broaden_22 rfl ?_
    refine r_iadd X eX3_broaden_23 (nI (hg - 1)) (nI_m1 (by omega)) ?_
    refine pf_X3_15 X eX3_broaden_24 (by omega) e0 (fun w2 n2_w2 uu2 => ?_)
    have e1_w2 := (uu2 (k + 1) (by omega)).trans e1
    have e2_w2 := (uu2 (k + 2) (by omega)).trans e2
    have fr_w2 : ∀ j, (j < k ∨ k + 3 ≤ j) → w2 j = w j := fun j hj => (uu2 j (by omega)).trans (fr_w j hj)
    exact ret _ _ _ _ eX3_broaden_27 (⟨⟨n2_w2, e1_w2, e2_w2, by omega, by omega, by omega, by omega, q5⟩, fr_w2⟩)
  ·
    have hw0 : way = 0 := by omega
    subst hw0
    have hb2 : br 0 wd hg = wd := rfl
    refine r_aload_n X eX3_broaden_4 rfl ?_
    refine r_dup X eX3_broaden_5 rfl ?_
    refine gf_X3_9 X eX3_broaden_6 (by omega) e0 ?_
    refine r_iload_n X eX3_broaden_9 rfl ?_
    refine r_iadd X eX3_broaden_10 (nI (wd - 1)) (nI_m1 (by omega)) ?_
    refine pf_X3_9 X eX3_broaden_11 (by omega) e0 (fun w3 n3_w3 uu3 => ?_)
    have e1_w3 := (uu3 (k + 1) (by omega)).trans e1
    have e2_w3 := (uu3 (k + 2) (by omega)).trans e2
    have fr_w3 : ∀ j, (j < k ∨ k + 3 ≤ j) → w3 j = w j := fun j hj => (uu3 j (by omega)).trans (fr_w j hj)
    refine r_goto (tgt := 27) X eX3_broaden_14 (by decide) ?_
    exact ret _ _ _ _ eX3_broaden_27 (⟨⟨n3_w3, e1_w3, e2_w3, by omega, by omega, by omega, by omega, q5⟩, fr_w3⟩)
set_option maxHeartbeats 4000000 in
set_option maxRecDepth 100000 in
theorem c_X3_broaden_p (l : Launch) (G : Gs) (b N : Nat) (w : Wd) (k : Nat) (hk : k + 3 ≤ N) (wd hg lw : Nat) (ga ma : Nat → Int32) (hp : isPic G b w k wd hg lw ga ma) (way : Nat) (hw : way < 2) (hb : br way wd hg < 8) : CV l yX3_broaden cX3_broaden 3 0 G b N w [.ref (b + k), .int (nI way), .int (nI 1)] (fun w2 => isPic G b w2 k (wd + (1 - way)) (hg + way) lw ga ma ∧ ∀ j, (j < k ∨ k + 3 ≤ j) → w2 j = w j) := by
  obtain ⟨e0, e1, e2, q1, q2, q3, q4, q5⟩ := hp
  refine CV_of (L0 := [some (.ref (b + k)), some (.int (nI way)), some (.int (nI 1))]) (by decide) rfl (by simp [Value.category]) rfl (Nat.le_of_ble_eq_true rfl) (fun κ X ret => ?_)
  have fr_w : ∀ j, (j < k ∨ k + 3 ≤ j) → w j = w j := fun _ _ => rfl
  refine r_iload_n X eX3_broaden_0 rfl ?_
  refine r_if_ne (tgt := 17) X eX3_broaden_1 (by decide) (nI_toInt (by omega)) (fun c_1 => ?_) (fun c_1 => ?_)
  ·
    have hw1 : way = 1 := by omega
    subst hw1
    have hb2 : br 1 wd hg = hg := rfl
    refine r_aload_n X eX3_broaden_17 rfl ?_
    refine r_dup X eX3_broaden_18 rfl ?_
    refine gf_X3_15 X eX3_broaden_19 (by omega) e0 ?_
    refine r_iload_n X eX3_broaden_22 rfl ?_
    refine r_iadd X eX3_broaden_23 (nI (hg + 1)) (addN rfl) ?_
    refine pf_X3_15 X eX3_broaden_24 (by omega) e0 (fun w2 n2_w2 uu2 => ?_)
    have e1_w2 := (uu2 (k + 1) (by omega)).trans e1
    have e2_w2 := (uu2 (k + 2) (by omega)).trans e2
    have fr_w2 : ∀ j, (j < k ∨ k + 3 ≤ j) → w2 j = w j := fun j hj => (uu2 j (by omega)).trans (fr_w j hj)
    exact ret _ _ _ _ eX3_broaden_27 (⟨⟨n2_w2, e1_w2, e2_w2, by omega, by omega, by omega, by omega, q5⟩, fr_w2⟩)
  ·
    have hw0 : way = 0 := by omega
    subst hw0
    have hb2 : br 0 wd hg = wd := rfl
    refine r_aload_n X eX3_broaden_4 rfl ?_
    refine r_dup X eX3_broaden_5 rfl ?_
    refine gf_X3_9 X eX3_broaden_6 (by omega) e0 ?_
    refine r_iload_n X eX3_broaden_9 rfl ?_
    refine r_iadd X eX3_broaden_10 (nI (wd + 1)) (addN rfl) ?_
    refine pf_X3_9 X eX3_broaden_11 (by omega) e0 (fun w3 n3_w3 uu3 => ?_)
    have e1_w3 := (uu3 (k + 1) (by omega)).trans e1
    have e2_w3 := (uu3 (k + 2) (by omega)).trans e2
    have fr_w3 : ∀ j, (j < k ∨ k + 3 ≤ j) → w3 j = w j := fun j hj => (uu3 j (by omega)).trans (fr_w j hj)
    refine r_goto (tgt := 27) X eX3_broaden_14 (by decide) ?_
    exact ret _ _ _ _ eX3_broaden_27 (⟨⟨n3_w3, e1_w3, e2_w3, by omega, by omega, by omega, by omega, q5⟩, fr_w3⟩)
