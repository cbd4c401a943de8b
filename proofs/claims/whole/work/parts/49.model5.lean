theorem nb_le8 {P : Pc} {way : Nat} (hw : way < 2) (hb : nbP P way < 8) (h1 : P.1 ≤ 8) (h2 : P.2.1 ≤ 8) : P.1 + (1 - way) ≤ 8 ∧ P.2.1 + way ≤ 8 := by
  rcases way_or hw with rfl | rfl
  · have : P.1 < 8 := hb
    omega
  · have : P.2.1 < 8 := hb
    omega
set_option maxHeartbeats 4000000 in
set_option maxRecDepth 100000 in
theorem c_X6_valueOf (l : Launch) (G : Gs) (b N : Nat) (w : Wd) (hN : 88 ≤ N) (n wd hg : Nat) (sc kc bc bo ag bk : Int32) (st ims kf sg gr mk rs se tt tc : Nat → Int32) (hm : mW G b w n wd hg sc kc bc bo ag bk st ims kf sg gr mk rs se tt tc) (x : Int32) (how : Nat) (hh : how < 2) : CI l yX6_valueOf cX6_valueOf 3 (some .int) 1 G b N w [.ref (b + 77), .int x, .int (nI how)] (fun r w2 => r = vS how x ∧ w2 = w) := by
  obtain ⟨m0, m1, m2, m3, m4, m5, m6, m7, m8, m9, m10⟩ := hm
  refine CI_of (L0 := [some (.ref (b + 77)), some (.int x), some (.int (nI how))]) (by decide) rfl (by simp [Value.category]) rfl (Nat.le_of_ble_eq_true rfl) rfl (fun κ X ret => ?_)
  refine r_iload_n X eX6_valueOf_0 rfl ?_
  refine r_if_ne (tgt := 25) X eX6_valueOf_1 (by decide) (nI_toInt (by omega)) (fun c_1 => ?_) (fun c_1 => ?_)
  ·
    refine r_iload_n X eX6_valueOf_25 rfl ?_
    refine r_bipush X eX6_valueOf_26 (nI 46) (by decide) ?_
    refine r_icmp_ne (tgt := 35) X eX6_valueOf_28 (by decide) rfl (nI_toInt (by omega)) (fun c_2 => ?_) (fun c_2 => ?_)
    ·
      refine r_iload_n X eX6_valueOf_35 rfl ?_
      refine r_bipush X eX6_valueOf_36 (nI 107) (by decide) ?_
      refine r_icmp_ne (tgt := 45) X eX6_valueOf_38 (by decide) rfl (nI_toInt (by omega)) (fun c_3 => ?_) (fun c_3 => ?_)
      ·
        refine r_iload_n X eX6_valueOf_45 rfl ?_
        refine r_bipush X eX6_valueOf_46 (nI 103) (by decide) ?_
        refine r_icmp_ne (tgt := 55) X eX6_valueOf_48 (by decide) rfl (nI_toInt (by omega)) (fun c_4 => ?_) (fun c_4 => ?_)
        ·
          refine r_bipush X eX6_valueOf_55 ((-6 : Int32)) (by decide) ?_
          exact ret _ _ _ _ _ eX6_valueOf_57 (⟨by rw [vS, if_neg (by omega), if_neg (by omega), if_neg (by omega), if_neg (by omega)], rfl⟩)
        ·
          refine r_iconst X eX6_valueOf_51 (nI 2) (by decide) ?_
          refine r_goto (tgt := 57) X eX6_valueOf_52 (by decide) ?_
          exact ret _ _ _ _ _ eX6_valueOf_57 (⟨by rw [vS, if_neg (by omega), if_neg (by omega), if_neg (by omega), if_pos (by omega)]; rfl, rfl⟩)
      ·
        refine r_iconst X eX6_valueOf_41 (nI 1) (by decide) ?_
        refine r_goto (tgt := 57) X eX6_valueOf_42 (by decide) ?_
        exact ret _ _ _ _ _ eX6_valueOf_57 (⟨by rw [vS, if_neg (by omega), if_neg (by omega), if_pos (by omega)]; rfl, rfl⟩)
    ·
      refine r_iconst X eX6_valueOf_31 (nI 0) (by decide) ?_
      refine r_goto (tgt := 57) X eX6_valueOf_32 (by decide) ?_
      exact ret _ _ _ _ _ eX6_valueOf_57 (⟨by rw [vS, if_neg (by omega), if_pos (by omega)]; rfl, rfl⟩)
  ·
    refine r_iload_n X eX6_valueOf_4 rfl ?_
    refine r_bipush X eX6_valueOf_5 (nI 48) (by decide) ?_
    refine r_bipush X eX6_valueOf_7 (nI 57) (by decide) ?_
    refine cp_X6_41 X eX6_valueOf_9 (c_X6_in _ G b N w (x) (nI 48) (nI 57) (x.toInt) (48) (57) rfl (nI_toInt (by omega)) (nI_toInt (by omega))) (by decide) rfl (Nat.le_of_ble_eq_true rfl) ?_
    refine r_ifeq_b (tgt := 22) X eX6_valueOf_12 (by decide) (fun c_5 => ?_) (fun c_5 => ?_)
    ·
      refine r_bipush X eX6_valueOf_22 ((-6 : Int32)) (by decide) ?_
      exact ret _ _ _ _ _ eX6_valueOf_24 (⟨by rw [vS, if_pos (by omega), if_neg (by omega)], rfl⟩)
    ·
      refine r_iload_n X eX6_valueOf_15 rfl ?_
      refine r_bipush X eX6_valueOf_16 ((48 : Int32)) (by decide) ?_
      refine r_isub X eX6_valueOf_18 (x - ((48 : Int32))) rfl ?_
      refine r_goto (tgt := 24) X eX6_valueOf_19 (by decide) ?_
      exact ret _ _ _ _ _ eX6_valueOf_24 (⟨by rw [vS, if_pos (by omega), if_pos (by omega)], rfl⟩)
set_option maxHeartbeats 4000000 in
set_option maxRecDepth 100000 in
theorem c_X6_signs (l : Launch) (G : Gs) (b N : Nat) (w : Wd) (hN : 88 ≤ N) (n wd hg : Nat) (sc kc bc bo ag bk : Int32) (st ims kf sg gr mk rs se tt tc : Nat → Int32) (hm : mW G b w n wd hg sc kc bc bo ag bk st ims kf sg gr mk rs se tt tc) (P : Pc) (hP : okPc P) (e1 : st 128 = nI P.1) (e2 : st 129 = nI P.2.1) : CI l yX6_signs cX6_signs 1 (some .int) 0 G b N w [.ref (b + 77)] (fun r w2 => r = nI (duS P.1 P.2.1) ∧ w2 = w) := by
  obtain ⟨m0, m1, m2, m3, m4, m5, m6, m7, m8, m9, m10⟩ := hm
  obtain ⟨o1, o2, o3, o4⟩ := hP
  refine CI_of (L0 := [some (.ref (b + 77))]) (by decide) rfl (by simp [Value.category]) rfl (Nat.le_of_ble_eq_true rfl) rfl (fun κ X ret => ?_)
  refine r_aload_n X eX6_signs_0 rfl ?_
  refine gf_X6_7 X eX6_signs_1 (by omega) m0 ?_
  refine r_sipush X eX6_signs_4 (nI 128) (by decide) ?_
  refine r_iald X eX6_signs_7 (by omega) m1 (by omega) (by decide) ?_
  refine r_top (y := nI P.1) e1 ?_
  refine r_aload_n X eX6_signs_8 rfl ?_
  refine gf_X6_7 X eX6_signs_9 (by omega) m0 ?_
  refine r_sipush X eX6_signs_12 (nI 129) (by decide) ?_
  refine r_iald X eX6_signs_15 (by omega) m1 (by omega) (by decide) ?_
  refine r_top (y := nI P.2.1) e2 ?_
  refine r_imul X eX6_signs_16 (nI (P.1 * P.2.1)) (pk_mul _ _) ?_
  refine r_aload_n X eX6_signs_17 rfl ?_
  refine gf_X6_7 X eX6_signs_18 (by omega) m0 ?_
  refine r_sipush X eX6_signs_21 (nI 129) (by decide) ?_
  refine r_iald X eX6_signs_24 (by omega) m1 (by omega) (by decide) ?_
  refine r_top (y := nI P.2.1) e2 ?_
  refine r_iadd X eX6_signs_25 (nI ((P.1 * P.2.1) + P.2.1)) (addN (by omega)) ?_
  refine r_iconst X eX6_signs_26 (nI 1) (by decide) ?_
  refine r_isub X eX6_signs_27 (nI (((P.1 * P.2.1) + P.2.1) - 1)) (pk_sub (by omega)) ?_
  exact ret _ _ _ _ _ eX6_signs_28 (⟨congrArg nI du_eq, rfl⟩)
set_option maxHeartbeats 4000000 in
set_option maxRecDepth 100000 in
theorem c_X6_isBetween (l : Launch) (G : Gs) (b N : Nat) (w : Wd) (hN : 88 ≤ N) (n wd hg : Nat) (sc kc bc bo ag bk : Int32) (st ims kf sg gr mk rs se tt tc : Nat → Int32) (hm : mW G b w n wd hg sc kc bc bo ag bk st ims kf sg gr mk rs se tt tc) (P : Pc) (hP : okPc P) (e1 : st 128 = nI P.1) (e2 : st 129 = nI P.2.1) (k : Nat) (hk : k < 200) : CI l yX6_isBetween cX6_isBetween 2 (some .boolean) 0 G b N w [.ref (b + 77), .int (nI k)] (fun r w2 => r = bI (k % (P.1 + 1) = P.1) ∧ w2 = w) := by
  obtain ⟨m0, m1, m2, m3, m4, m5, m6, m7, m8, m9, m10⟩ := hm
  obtain ⟨o1, o2, o3, o4⟩ := hP
  have hmod := Nat.mod_lt k (show 0 < P.1 + 1 by omega)
  refine CZ_of (L0 := [some (.ref (b + 77)), some (.int (nI k))]) (by decide) rfl (by simp [Value.category]) rfl (Nat.le_of_ble_eq_true rfl) rfl (fun κ X ret => ?_)
  refine r_iload_n X eX6_isBetween_0 rfl ?_
  refine r_aload_n X eX6_isBetween_1 rfl ?_
  refine gf_X6_7 X eX6_isBetween_2 (by omega) m0 ?_
  refine r_sipush X eX6_isBetween_5 (nI 128) (by decide) ?_
  refine r_iald X eX6_isBetween_8 (by omega) m1 (by omega) (by decide) ?_
  refine r_top (y := nI P.1) e1 ?_
  refine r_iconst X eX6_isBetween_9 (nI 1) (by decide) ?_
  refine r_iadd X eX6_isBetween_10 (nI (P.1 + 1)) (addN (by omega)) ?_
  refine r_irem X eX6_isBetween_11 (nI_ne0 (by omega) (by omega)) (nI (k % (P.1 + 1))) (pk_rem (by omega) (by omega) (by omega)) ?_
  refine r_aload_n X eX6_isBetween_12 rfl ?_
  refine gf_X6_7 X eX6_isBetween_13 (by omega) m0 ?_
  refine r_sipush X eX6_isBetween_16 (nI 128) (by decide) ?_
  refine r_iald X eX6_isBetween_19 (by omega) m1 (by omega) (by decide) ?_
  refine r_top (y := nI P.1) e1 ?_
  refine r_icmp_ne (tgt := 27) X eX6_isBetween_20 (by decide) (nI_toInt (by omega)) (nI_toInt (by omega)) (fun c_1 => ?_) (fun c_1 => ?_)
  ·
    refine r_iconst X eX6_isBetween_27 (nI 0) (by decide) ?_
    exact ret _ _ _ _ _ eX6_isBetween_28 (Or.inl rfl) (⟨bI_f (by omega), rfl⟩)
  ·
    refine r_iconst X eX6_isBetween_23 (nI 1) (by decide) ?_
    refine r_goto (tgt := 28) X eX6_isBetween_24 (by decide) ?_
    exact ret _ _ _ _ _ eX6_isBetween_28 (Or.inr rfl) (⟨bI_t (by omega), rfl⟩)
set_option maxHeartbeats 4000000 in
set_option maxRecDepth 100000 in
theorem c_X6_faultAs (l : Launch) (G : Gs) (b N : Nat) (w : Wd) (hN : 88 ≤ N) (n wd hg : Nat) (sc kc bc bo ag bk : Int32) (st ims kf sg gr mk rs se tt tc : Nat → Int32) (hm : mW G b w n wd hg sc kc bc bo ag bk st ims kf sg gr mk rs se tt tc) (P : Pc) (hP : okPc P) (e1 : st 128 = nI P.1) (e2 : st 129 = nI P.2.1) (how : Nat) (hh : how < 2) (hn8 : n ≤ 80) : CI l yX6_faultAs cX6_faultAs 4 (some .int) 2 G b N w [.ref (b + 77), .int (nI how)] (fun r w2 => r = ffS how P.1 P.2.1 n sg ∧ w2 = w) := by
  obtain ⟨m0, m1, m2, m3, m4, m5, m6, m7, m8, m9, m10⟩ := hm
  have hP2 := hP
  obtain ⟨o1, o2, o3, o4⟩ := hP2
  have hm1 := mulN (wd := P.1) (hg := P.2.1) o2 o4
  have hdu : duS P.1 P.2.1 = P.2.1 * (P.1 + 1) - 1 := rfl
  refine CI_of (L0 := [some (.ref (b + 77)), some (.int (nI how)), none, none]) (by decide) rfl (by simp [Value.category]) rfl (Nat.le_of_ble_eq_true rfl) rfl (fun κ X ret => ?_)
  refine r_iconst X eX6_faultAs_0 (nI 0) (by decide) ?_
  refine r_istore_n X eX6_faultAs_1 (Nat.le_of_ble_eq_true rfl) (L2 := [some (.ref (b + 77)), some (.int (nI how)), some (.int (nI 0)), none]) rfl ?_
  have lp1 : ∀ (fu : Nat) (i : Nat), (i ≤ n) → (∀ j, j < i → badS how P.1 P.2.1 sg j = false) → n - i < fu → V κ G b (N, 0, 0) w 2 [some (.ref (b + 77)), some (.int (nI how)), some (.int (nI i)), none] [] := by
    intro fu
    induction fu with
    | zero => intro i hi hz hm; exact absurd hm (Nat.not_lt_zero _)
    | succ fu ih1 =>
      intro i hi hz hm
      refine r_iload_n X eX6_faultAs_2 rfl ?_
      refine r_aload_n X eX6_faultAs_3 rfl ?_
      refine gf_X6_127 X eX6_faultAs_4 (by omega) m0 ?_
      refine r_icmp_ge (tgt := 77) X eX6_faultAs_7 (by decide) (nI_toInt (by omega)) (nI_toInt (by omega)) (fun c_2 => ?_) (fun c_2 => ?_)
      ·
        refine r_aload_n X eX6_faultAs_77 rfl ?_
        refine gf_X6_127 X eX6_faultAs_78 (by omega) m0 ?_
        refine r_aload_n X eX6_faultAs_81 rfl ?_
        refine cp_X6_137 X eX6_faultAs_82 (c_X6_signs _ G b N w hN n wd hg sc kc bc bo ag bk st ims kf sg gr mk rs se tt tc ⟨m0, m1, m2, m3, m4, m5, m6, m7, m8, m9, m10⟩ P hP e1 e2) (by decide) (by omega) m0 rfl (Nat.le_of_ble_eq_true rfl) ?_
        refine r_icmp_ge (tgt := 95) X eX6_faultAs_85 (by decide) (nI_toInt (by omega)) (nI_toInt (by omega)) (fun c_3 => ?_) (fun c_3 => ?_)
        ·
          refine r_bipush X eX6_faultAs_95 ((-6 : Int32)) (by decide) ?_
          exact ret _ _ _ _ _ eX6_faultAs_97 (⟨by rw [ff_none hz (by omega), if_neg (by omega)], rfl⟩)
        ·
          refine r_aload_n X eX6_faultAs_88 rfl ?_
          refine gf_X6_127 X eX6_faultAs_89 (by omega) m0 ?_
          refine r_goto (tgt := 97) X eX6_faultAs_92 (by decide) ?_
          exact ret _ _ _ _ _ eX6_faultAs_97 (⟨by rw [ff_none hz (by omega), if_pos (by omega)], rfl⟩)
      ·
        refine r_aload_n X eX6_faultAs_10 rfl ?_
        refine r_iload_n X eX6_faultAs_11 rfl ?_
        refine cp_X6_130 X eX6_faultAs_12 (c_X6_isBetween _ G b N w hN n wd hg sc kc bc bo ag bk st ims kf sg gr mk rs se tt tc ⟨m0, m1, m2, m3, m4, m5, m6, m7, m8, m9, m10⟩ P hP e1 e2 i (by omega)) (by decide) (by omega) m0 rfl (Nat.le_of_ble_eq_true rfl) ?_
        refine r_ifeq_b (tgt := 37) X eX6_faultAs_15 (by decide) (fun c_4 => ?_) (fun c_4 => ?_)
        ·
          refine r_aload_n X eX6_faultAs_37 rfl ?_
          refine r_aload_n X eX6_faultAs_38 rfl ?_
          refine gf_X6_20 X eX6_faultAs_39 (by omega) m0 ?_
          refine r_iload_n X eX6_faultAs_42 rfl ?_
          refine r_iald X eX6_faultAs_43 (by omega) m4 (by omega) (by decide) ?_
          refine r_iload_n X eX6_faultAs_44 rfl ?_
          refine cp_X6_134 X eX6_faultAs_45 (c_X6_valueOf _ G b N w hN n wd hg sc kc bc bo ag bk st ims kf sg gr mk rs se tt tc ⟨m0, m1, m2, m3, m4, m5, m6, m7, m8, m9, m10⟩ (sg i) how hh) (by decide) (by omega) m0 rfl (Nat.le_of_ble_eq_true rfl) ?_
          refine r_if_lt (tgt := 55) X eX6_faultAs_48 (by decide) rfl (fun c_5 => ?_) (fun c_5 => ?_)
          ·
            refine r_iconst X eX6_faultAs_55 (nI 0) (by decide) ?_
            refine r_top (y := bI (csS how (sg i) (i % (P.1 + 1) = P.1))) (bI_f (by rw [csS, if_neg c_4]; omega)) ?_
            refine r_istore_n X eX6_faultAs_56 (Nat.le_of_ble_eq_true rfl) (L2 := [some (.ref (b + 77)), some (.int (nI how)), some (.int (nI i)), some (.int (bI (csS how (sg i) (i % (P.1 + 1) = P.1))))]) rfl ?_
            refine r_iload_n X eX6_faultAs_57 rfl ?_
            refine r_ifeq_b (tgt := 69) X eX6_faultAs_58 (by decide) (fun c_6 => ?_) (fun c_6 => ?_)
            ·
              refine r_iload_n X eX6_faultAs_69 rfl ?_
              exact ret _ _ _ _ _ eX6_faultAs_70 (⟨ff_hit hz (Or.inr c_6) (by omega), rfl⟩)
            ·
              refine r_iload_n X eX6_faultAs_61 rfl ?_
              refine r_aload_n X eX6_faultAs_62 rfl ?_
              refine cp_X6_137 X eX6_faultAs_63 (c_X6_signs _ G b N w hN n wd hg sc kc bc bo ag bk st ims kf sg gr mk rs se tt tc ⟨m0, m1, m2, m3, m4, m5, m6, m7, m8, m9, m10⟩ P hP e1 e2) (by decide) (by omega) m0 rfl (Nat.le_of_ble_eq_true rfl) ?_
              refine r_icmp_lt (tgt := 71) X eX6_faultAs_66 (by decide) (nI_toInt (by omega)) (nI_toInt (by omega)) (fun c_7 => ?_) (fun c_7 => ?_)
              ·
                refine r_iinc X eX6_faultAs_71 rfl (nI (i + 1)) (inc_nI _) (L2 := [some (.ref (b + 77)), some (.int (nI how)), some (.int (nI (i + 1))), some (.int (bI (csS how (sg i) (i % (P.1 + 1) = P.1))))]) rfl ?_
                refine r_goto (tgt := 2) X eX6_faultAs_74 (by decide) ?_
                refine r_fg 3 (L2 := [some (.ref (b + 77)), some (.int (nI how)), some (.int (nI (i + 1))), none]) rfl ?_
                exact ih1 (i + 1)  (by omega) (fun j hj => bad_st hz (by omega) c_6 hj)  (by omega)
              ·
                refine r_iload_n X eX6_faultAs_69 rfl ?_
                exact ret _ _ _ _ _ eX6_faultAs_70 (⟨ff_hit hz (Or.inl (by omega)) (by omega), rfl⟩)
          ·
            refine r_iconst X eX6_faultAs_51 (nI 1) (by decide) ?_
            refine r_goto (tgt := 56) X eX6_faultAs_52 (by decide) ?_
            refine r_top (y := bI (csS how (sg i) (i % (P.1 + 1) = P.1))) (bI_t (by rw [csS, if_neg c_4]; omega)) ?_
            refine r_istore_n X eX6_faultAs_56 (Nat.le_of_ble_eq_true rfl) (L2 := [some (.ref (b + 77)), some (.int (nI how)), some (.int (nI i)), some (.int (bI (csS how (sg i) (i % (P.1 + 1) = P.1))))]) rfl ?_
            refine r_iload_n X eX6_faultAs_57 rfl ?_
            refine r_ifeq_b (tgt := 69) X eX6_faultAs_58 (by decide) (fun c_8 => ?_) (fun c_8 => ?_)
            ·
              refine r_iload_n X eX6_faultAs_69 rfl ?_
              exact ret _ _ _ _ _ eX6_faultAs_70 (⟨ff_hit hz (Or.inr c_8) (by omega), rfl⟩)
            ·
              refine r_iload_n X eX6_faultAs_61 rfl ?_
              refine r_aload_n X eX6_faultAs_62 rfl ?_
              refine cp_X6_137 X eX6_faultAs_63 (c_X6_signs _ G b N w hN n wd hg sc kc bc bo ag bk st ims kf sg gr mk rs se tt tc ⟨m0, m1, m2, m3, m4, m5, m6, m7, m8, m9, m10⟩ P hP e1 e2) (by decide) (by omega) m0 rfl (Nat.le_of_ble_eq_true rfl) ?_
              refine r_icmp_lt (tgt := 71) X eX6_faultAs_66 (by decide) (nI_toInt (by omega)) (nI_toInt (by omega)) (fun c_9 => ?_) (fun c_9 => ?_)
              ·
                refine r_iinc X eX6_faultAs_71 rfl (nI (i + 1)) (inc_nI _) (L2 := [some (.ref (b + 77)), some (.int (nI how)), some (.int (nI (i + 1))), some (.int (bI (csS how (sg i) (i % (P.1 + 1) = P.1))))]) rfl ?_
                refine r_goto (tgt := 2) X eX6_faultAs_74 (by decide) ?_
                refine r_fg 3 (L2 := [some (.ref (b + 77)), some (.int (nI how)), some (.int (nI (i + 1))), none]) rfl ?_
                exact ih1 (i + 1)  (by omega) (fun j hj => bad_st hz (by omega) c_8 hj)  (by omega)
              ·
                refine r_iload_n X eX6_faultAs_69 rfl ?_
                exact ret _ _ _ _ _ eX6_faultAs_70 (⟨ff_hit hz (Or.inl (by omega)) (by omega), rfl⟩)
        ·
          refine r_aload_n X eX6_faultAs_18 rfl ?_
          refine gf_X6_20 X eX6_faultAs_19 (by omega) m0 ?_
          refine r_iload_n X eX6_faultAs_22 rfl ?_
          refine r_iald X eX6_faultAs_23 (by omega) m4 (by omega) (by decide) ?_
          refine r_bipush X eX6_faultAs_24 (nI 47) (by decide) ?_
          refine r_icmp_ne (tgt := 33) X eX6_faultAs_26 (by decide) rfl (nI_toInt (by omega)) (fun c_10 => ?_) (fun c_10 => ?_)
          ·
            refine r_iconst X eX6_faultAs_33 (nI 0) (by decide) ?_
            refine r_goto (tgt := 56) X eX6_faultAs_34 (by decide) ?_
            refine r_top (y := bI (csS how (sg i) (i % (P.1 + 1) = P.1))) (bI_f (by rw [csS, if_pos c_4]; omega)) ?_
            refine r_istore_n X eX6_faultAs_56 (Nat.le_of_ble_eq_true rfl) (L2 := [some (.ref (b + 77)), some (.int (nI how)), some (.int (nI i)), some (.int (bI (csS how (sg i) (i % (P.1 + 1) = P.1))))]) rfl ?_
            refine r_iload_n X eX6_faultAs_57 rfl ?_
            refine r_ifeq_b (tgt := 69) X eX6_faultAs_58 (by decide) (fun c_11 => ?_) (fun c_11 => ?_)
            ·
              refine r_iload_n X eX6_faultAs_69 rfl ?_
              exact ret _ _ _ _ _ eX6_faultAs_70 (⟨ff_hit hz (Or.inr c_11) (by omega), rfl⟩)
            ·
              refine r_iload_n X eX6_faultAs_61 rfl ?_
              refine r_aload_n X eX6_faultAs_62 rfl ?_
              refine cp_X6_137 X eX6_faultAs_63 (c_X6_signs _ G b N w hN n wd hg sc kc bc bo ag bk st ims kf sg gr mk rs se tt tc ⟨m0, m1, m2, m3, m4, m5, m6, m7, m8, m9, m10⟩ P hP e1 e2) (by decide) (by omega) m0 rfl (Nat.le_of_ble_eq_true rfl) ?_
              refine r_icmp_lt (tgt := 71) X eX6_faultAs_66 (by decide) (nI_toInt (by omega)) (nI_toInt (by omega)) (fun c_12 => ?_) (fun c_12 => ?_)
              ·
                refine r_iinc X eX6_faultAs_71 rfl (nI (i + 1)) (inc_nI _) (L2 := [some (.ref (b + 77)), some (.int (nI how)), some (.int (nI (i + 1))), some (.int (bI (csS how (sg i) (i % (P.1 + 1) = P.1))))]) rfl ?_
                refine r_goto (tgt := 2) X eX6_faultAs_74 (by decide) ?_
                refine r_fg 3 (L2 := [some (.ref (b + 77)), some (.int (nI how)), some (.int (nI (i + 1))), none]) rfl ?_
                exact ih1 (i + 1)  (by omega) (fun j hj => bad_st hz (by omega) c_11 hj)  (by omega)
              ·
                refine r_iload_n X eX6_faultAs_69 rfl ?_
                exact ret _ _ _ _ _ eX6_faultAs_70 (⟨ff_hit hz (Or.inl (by omega)) (by omega), rfl⟩)
          ·
            refine r_iconst X eX6_faultAs_29 (nI 1) (by decide) ?_
            refine r_goto (tgt := 56) X eX6_faultAs_30 (by decide) ?_
            refine r_top (y := bI (csS how (sg i) (i % (P.1 + 1) = P.1))) (bI_t (by rw [csS, if_pos c_4]; omega)) ?_
            refine r_istore_n X eX6_faultAs_56 (Nat.le_of_ble_eq_true rfl) (L2 := [some (.ref (b + 77)), some (.int (nI how)), some (.int (nI i)), some (.int (bI (csS how (sg i) (i % (P.1 + 1) = P.1))))]) rfl ?_
            refine r_iload_n X eX6_faultAs_57 rfl ?_
            refine r_ifeq_b (tgt := 69) X eX6_faultAs_58 (by decide) (fun c_13 => ?_) (fun c_13 => ?_)
            ·
              refine r_iload_n X eX6_faultAs_69 rfl ?_
              exact ret _ _ _ _ _ eX6_faultAs_70 (⟨ff_hit hz (Or.inr c_13) (by omega), rfl⟩)
            ·
              refine r_iload_n X eX6_faultAs_61 rfl ?_
              refine r_aload_n X eX6_faultAs_62 rfl ?_
              refine cp_X6_137 X eX6_faultAs_63 (c_X6_signs _ G b N w hN n wd hg sc kc bc bo ag bk st ims kf sg gr mk rs se tt tc ⟨m0, m1, m2, m3, m4, m5, m6, m7, m8, m9, m10⟩ P hP e1 e2) (by decide) (by omega) m0 rfl (Nat.le_of_ble_eq_true rfl) ?_
              refine r_icmp_lt (tgt := 71) X eX6_faultAs_66 (by decide) (nI_toInt (by omega)) (nI_toInt (by omega)) (fun c_14 => ?_) (fun c_14 => ?_)
              ·
                refine r_iinc X eX6_faultAs_71 rfl (nI (i + 1)) (inc_nI _) (L2 := [some (.ref (b + 77)), some (.int (nI how)), some (.int (nI (i + 1))), some (.int (bI (csS how (sg i) (i % (P.1 + 1) = P.1))))]) rfl ?_
                refine r_goto (tgt := 2) X eX6_faultAs_74 (by decide) ?_
                refine r_fg 3 (L2 := [some (.ref (b + 77)), some (.int (nI how)), some (.int (nI (i + 1))), none]) rfl ?_
                exact ih1 (i + 1)  (by omega) (fun j hj => bad_st hz (by omega) c_13 hj)  (by omega)
              ·
                refine r_iload_n X eX6_faultAs_69 rfl ?_
                exact ret _ _ _ _ _ eX6_faultAs_70 (⟨ff_hit hz (Or.inl (by omega)) (by omega), rfl⟩)
  exact lp1 _ 0  (by omega) (fun j hj => absurd hj (by omega))  (Nat.lt_succ_self _)
set_option maxHeartbeats 4000000 in
set_option maxRecDepth 100000 in
theorem c_X6_fault (l : Launch) (G : Gs) (b N : Nat) (w : Wd) (hN : 88 ≤ N) (lw : Nat) (P : Pc) (n : Nat) (sg : Nat → Int32) (im : Nat → Nat × Pc) (kf : Nat → Int32) (hs : sysM G b w (lw, P, n, sg, im, kf)) (hkb : ∀ i, i < 2 → kf i = 0 ∨ kf i = 1) (how : Int32) : CI l yX6_fault cX6_fault 2 (some .int) 3 G b N w [.ref (b + 77), .int how] (fun r w2 => r = aFault P n sg how ∧ sysM G b w2 (lw, P, n, sg, im, kf) ∧ ∀ j, (j < 77 ∨ 88 ≤ j) → w2 j = w j) := by
  obtain ⟨wd, hg, sc, kc, bc, bo, ag, bk, st, ims, gr, mk, rs, se, tt, tc, ⟨m0, m1, m2, m3, m4, m5, m6, m7, m8, m9, m10⟩, hst, himg, hn8⟩ := id hs
  dsimp only at m0 m3 m4 hst himg hn8
  obtain ⟨s1, e1, e2, e3, hP, hlw⟩ := id hst
  obtain ⟨o1, o2, o3, o4⟩ := id hP
  refine CI_of (L0 := [some (.ref (b + 77)), some (.int how)]) (by decide) rfl (by simp [Value.category]) rfl (Nat.le_of_ble_eq_true rfl) rfl (fun κ X ret => ?_)
  have fr_w : ∀ j, (j < 77 ∨ 88 ≤ j) → w j = w j := fun _ _ => rfl
  refine r_iload_n X eX6_fault_0 rfl ?_
  refine r_iconst X eX6_fault_1 (nI 0) (by decide) ?_
  refine r_iconst X eX6_fault_2 (nI 1) (by decide) ?_
  refine cp_X6_41 X eX6_fault_3 (c_X6_in _ G b N w (how) (nI 0) (nI 1) (how.toInt) (0) (1) rfl (nI_toInt (by omega)) (nI_toInt (by omega))) (by decide) rfl (Nat.le_of_ble_eq_true rfl) ?_
  refine r_ifeq_b (tgt := 17) X eX6_fault_6 (by decide) (fun c_1 => ?_) (fun c_1 => ?_)
  ·
    refine r_bipush X eX6_fault_17 ((-2 : Int32)) (by decide) ?_
    exact ret _ _ _ _ _ eX6_fault_19 (⟨(if_neg (by omega)).symm, ⟨_, _, _, _, _, _, _, _, _, _, _, _, _, _, _, _, ⟨m0, m1, m2, m3, m4, m5, m6, m7, m8, m9, m10⟩, hst, himg, hn8⟩, fr_w⟩)
  ·
    obtain ⟨nh, hnh, rfl, hi_nh⟩ := i2n (x := how) (by omega)
    refine r_aload_n X eX6_fault_9 rfl ?_
    refine r_iload_n X eX6_fault_10 rfl ?_
    refine cp_X6_141 X eX6_fault_11 (c_X6_faultAs _ G b N w hN n wd hg sc kc bc bo ag bk st ims kf sg gr mk rs se tt tc ⟨m0, m1, m2, m3, m4, m5, m6, m7, m8, m9, m10⟩ P hP e1 e2 nh (by omega) hn8) (by decide) (by omega) m0 rfl (Nat.le_of_ble_eq_true rfl) ?_
    refine r_goto (tgt := 19) X eX6_fault_14 (by decide) ?_
    exact ret _ _ _ _ _ eX6_fault_19 (⟨by rw [aFault, if_pos (by omega), tn_nI hnh], ⟨_, _, _, _, _, _, _, _, _, _, _, _, _, _, _, _, ⟨m0, m1, m2, m3, m4, m5, m6, m7, m8, m9, m10⟩, hst, himg, hn8⟩, fr_w⟩)
set_option maxHeartbeats 4000000 in
set_option maxRecDepth 100000 in
theorem c_X6_seam (l : Launch) (G : Gs) (b N : Nat) (w : Wd) (hN : 88 ≤ N) (lw : Nat) (P : Pc) (n : Nat) (sg : Nat → Int32) (im : Nat → Nat × Pc) (kf : Nat → Int32) (hs : sysM G b w (lw, P, n, sg, im, kf)) (hkb : ∀ i, i < 2 → kf i = 0 ∨ kf i = 1) (way i : Int32) : CI l yX6_seam cX6_seam 3 (some .int) 10 G b N w [.ref (b + 77), .int way, .int i] (fun r w2 => r = aSeam lw P way i ∧ sysM G b w2 (lw, P, n, sg, im, kf) ∧ ∀ j, (j < 77 ∨ 88 ≤ j) → w2 j = w j) := by
  obtain ⟨wd, hg, sc, kc, bc, bo, ag, bk, st, ims, gr, mk, rs, se, tt, tc, ⟨m0, m1, m2, m3, m4, m5, m6, m7, m8, m9, m10⟩, hst, himg, hn8⟩ := id hs
  dsimp only at m0 m3 m4 hst himg hn8
  obtain ⟨s1, e1, e2, e3, hP, hlw⟩ := id hst
  obtain ⟨o1, o2, o3, o4⟩ := id hP
  refine CI_of (L0 := [some (.ref (b + 77)), some (.int way), some (.int i)]) (by decide) rfl (by simp [Value.category]) rfl (Nat.le_of_ble_eq_true rfl) rfl (fun κ X ret => ?_)
  have fr_w : ∀ j, (j < 77 ∨ 88 ≤ j) → w j = w j := fun _ _ => rfl
  refine r_iload_n X eX6_seam_0 rfl ?_
  refine cp_X6_144 X eX6_seam_1 (c_X6_isWay _ G b N w way) (by decide) rfl (Nat.le_of_ble_eq_true rfl) ?_
  refine r_ifeq_b (tgt := 12) X eX6_seam_4 (by decide) (fun c_1 => ?_) (fun c_1 => ?_)
  ·
    refine r_bipush X eX6_seam_12 ((-2 : Int32)) (by decide) ?_
    exact ret _ _ _ _ _ eX6_seam_14 (⟨(if_neg (fun q => c_1 q.1)).symm, ⟨_, _, _, _, _, _, _, _, _, _, _, _, _, _, _, _, ⟨m0, m1, m2, m3, m4, m5, m6, m7, m8, m9, m10⟩, hst, himg, hn8⟩, fr_w⟩)
  ·
    refine r_iload_n X eX6_seam_7 rfl ?_
    refine r_iconst X eX6_seam_8 ((-1 : Int32)) (by decide) ?_
    refine r_icmp_ge (tgt := 15) X eX6_seam_9 (by decide) rfl (show (-1 : Int32).toInt = -1 by decide) (fun c_2 => ?_) (fun c_2 => ?_)
    ·
      obtain ⟨nw, hnw, rfl, hi_nw⟩ := i2n (x := way) (by omega)
      have hpos := hP.pos nw
      refine r_aload_n X eX6_seam_15 rfl ?_
      refine cv_X6_124 X eX6_seam_16 (c_X6_take _ G b N w hN n wd hg sc kc bc bo ag bk st ims kf sg gr mk rs se tt tc ⟨m0, m1, m2, m3, m4, m5, m6, m7, m8, m9, m10⟩ P.1 P.2.1 e1 e2) (by decide) (by omega) m0 rfl (Nat.le_of_ble_eq_true rfl) (fun w3 hp3 => ?_)
      obtain ⟨gr2, mk2, ⟨y0K, y1K, y2K, y3K, y4K, y5K, y6K, y7K, y8K, y9K, y10K⟩, hgk, gK⟩ := hp3
      have m4_w3 : w3 77 = .inr (6, [.ref (b + 78), .ref (b + 79), .ref (b + 80), .ref (b + 81), .int (nI n), .ref (b + 82), .ref (b + 83), .int (nI P.1), .int (nI P.2.1), .ref (b + 84), .ref (b + 85), .int sc, .int kc, .int bc, .int bo, .int ag, .int bk, .ref (b + 86), .ref (b + 87)]) := y0K
      have m5_w3 : w3 78 = aI G 131 st := y1K
      have m6_w3 : w3 79 = aI G 262 ims := y2K
      have m7_w3 : w3 80 = aZ G 2 kf := y3K
      have m8_w3 : w3 81 = aI G 80 sg := y4K
      have m9_w3 : w3 82 = aI G 64 gr2 := y5K
      have m10_w3 : w3 83 = aI G 64 mk2 := y6K
      have m11_w3 : w3 84 = aI G 64 rs := y7K
      have m12_w3 : w3 85 = aI G 8 se := y8K
      have m13_w3 : w3 86 = aI G 6272 tt := y9K
      have m14_w3 : w3 87 = aI G 49 tc := y10K
      have fr_w3 : ∀ j, (j < 77 ∨ 88 ≤ j) → w3 j = w j := fun j hj => (gK j (by omega)).trans (fr_w j hj)
      have hag := stI_ag hst hgk
      refine r_aload_n X eX6_seam_19 rfl ?_
      refine r_iload_n X eX6_seam_20 rfl ?_
      refine cv_X6_110 X eX6_seam_21 (c_X6_layWay _ G b N w3 hN n P sc kc bc bo ag bk st ims kf sg gr2 mk2 rs se tt tc ⟨m4_w3, m5_w3, m6_w3, m7_w3, m8_w3, m9_w3, m10_w3, m11_w3, m12_w3, m13_w3, m14_w3⟩ hP lw hlw e3 hag nw (by omega)) (by decide) (by omega) m4_w3 rfl (Nat.le_of_ble_eq_true rfl) (fun w15 hp15 => ?_)
      obtain ⟨gr1, mk1, rs1, se1, ⟨y0W, y1W, y2W, y3W, y4W, y5W, y6W, y7W, y8W, y9W, y10W⟩, hag1, hok1, gW⟩ := hp15
      have m16_w15 : w15 77 = .inr (6, [.ref (b + 78), .ref (b + 79), .ref (b + 80), .ref (b + 81), .int (nI n), .ref (b + 82), .ref (b + 83), .int (nI (nbP P nw)), .int (nI (nlP P nw)), .ref (b + 84), .ref (b + 85), .int (tA lw P nw), .int kc, .int bc, .int bo, .int ag, .int bk, .ref (b + 86), .ref (b + 87)]) := y0W
      have m17_w15 : w15 78 = aI G 131 st := y1W
      have m18_w15 : w15 79 = aI G 262 ims := y2W
      have m19_w15 : w15 80 = aZ G 2 kf := y3W
      have m20_w15 : w15 81 = aI G 80 sg := y4W
      have m21_w15 : w15 82 = aI G 64 gr1 := y5W
      have m22_w15 : w15 83 = aI G 64 mk1 := y6W
      have m23_w15 : w15 84 = aI G 64 rs1 := y7W
      have m24_w15 : w15 85 = aI G 8 se1 := y8W
      have m25_w15 : w15 86 = aI G 6272 tt := y9W
      have m26_w15 : w15 87 = aI G 49 tc := y10W
      have fr_w15 : ∀ j, (j < 77 ∨ 88 ≤ j) → w15 j = w j := fun j hj => (gW j (by omega)).trans (fr_w3 j hj)
      refine r_iload_n X eX6_seam_24 rfl ?_
      refine r_iconst X eX6_seam_25 ((-1 : Int32)) (by decide) ?_
      refine r_icmp_ne (tgt := 40) X eX6_seam_26 (by decide) rfl (show (-1 : Int32).toInt = -1 by decide) (fun c_27 => ?_) (fun c_27 => ?_)
      ·
        refine r_iload_n X eX6_seam_40 rfl ?_
        refine r_aload_n X eX6_seam_41 rfl ?_
        refine gf_X6_49 X eX6_seam_42 (by omega) m16_w15 ?_
        refine r_icmp_ge (tgt := 57) X eX6_seam_45 (by decide) rfl (nI_toInt (by omega)) (fun c_28 => ?_) (fun c_28 => ?_)
        ·
          refine r_bipush X eX6_seam_57 ((-6 : Int32)) (by decide) ?_
          exact ret _ _ _ _ _ eX6_seam_59 (⟨by rw [aSeam, if_pos ⟨c_1, by omega⟩, tn_nI hnw, if_neg (by omega)], ⟨_, _, _, _, _, _, _, _, _, _, _, _, _, _, _, _, ⟨m16_w15, m17_w15, m18_w15, m19_w15, m20_w15, m21_w15, m22_w15, m23_w15, m24_w15, m25_w15, m26_w15⟩, hst, himg, hn8⟩, fr_w15⟩)
        ·
          obtain ⟨ni, hni, rfl, hi_ni⟩ := i2n (x := i) (by omega)
          refine r_aload_n X eX6_seam_48 rfl ?_
          refine gf_X6_32 X eX6_seam_49 (by omega) m16_w15 ?_
          refine r_iload_n X eX6_seam_52 rfl ?_
          refine r_iald X eX6_seam_53 (by omega) m24_w15 (by omega) (by decide) ?_
          refine r_top (y := nI (sA lw P nw ni)) (hok1 ni (by omega)).1 ?_
          refine r_goto (tgt := 59) X eX6_seam_54 (by decide) ?_
          exact ret _ _ _ _ _ eX6_seam_59 (⟨by rw [aSeam, if_pos ⟨c_1, by omega⟩, tn_nI hnw, if_pos (by omega), if_neg (by omega), tn_nI hni], ⟨_, _, _, _, _, _, _, _, _, _, _, _, _, _, _, _, ⟨m16_w15, m17_w15, m18_w15, m19_w15, m20_w15, m21_w15, m22_w15, m23_w15, m24_w15, m25_w15, m26_w15⟩, hst, himg, hn8⟩, fr_w15⟩)
      ·
        refine r_aload_n X eX6_seam_29 rfl ?_
        refine gf_X6_94 X eX6_seam_30 (by omega) m16_w15 ?_
        refine r_sipush X eX6_seam_33 ((10000 : Int32)) (by decide) ?_
        refine r_iadd X eX6_seam_36 ((tA lw P nw) + ((10000 : Int32))) rfl ?_
        refine r_goto (tgt := 59) X eX6_seam_37 (by decide) ?_
        exact ret _ _ _ _ _ eX6_seam_59 (⟨by rw [aSeam, if_pos ⟨c_1, by omega⟩, tn_nI hnw, if_pos (by omega), if_pos (by omega)], ⟨_, _, _, _, _, _, _, _, _, _, _, _, _, _, _, _, ⟨m16_w15, m17_w15, m18_w15, m19_w15, m20_w15, m21_w15, m22_w15, m23_w15, m24_w15, m25_w15, m26_w15⟩, hst, himg, hn8⟩, fr_w15⟩)
    ·
      refine r_bipush X eX6_seam_12 ((-2 : Int32)) (by decide) ?_
      exact ret _ _ _ _ _ eX6_seam_14 (⟨(if_neg (fun q => absurd q.2 (by omega))).symm, ⟨_, _, _, _, _, _, _, _, _, _, _, _, _, _, _, _, ⟨m0, m1, m2, m3, m4, m5, m6, m7, m8, m9, m10⟩, hst, himg, hn8⟩, fr_w⟩)
set_option maxHeartbeats 4000000 in
set_option maxRecDepth 100000 in
theorem c_X6_cut (l : Launch) (G : Gs) (b N : Nat) (w : Wd) (hN : 88 ≤ N) (lw : Nat) (P : Pc) (n : Nat) (sg : Nat → Int32) (im : Nat → Nat × Pc) (kf : Nat → Int32) (hs : sysM G b w (lw, P, n, sg, im, kf)) (hkb : ∀ i, i < 2 → kf i = 0 ∨ kf i = 1) (way : Int32) : CI l yX6_cut cX6_cut 3 (some .int) 11 G b N w [.ref (b + 77), .int way] (fun r w2 => r = (fCut lw P n sg im kf way).1 ∧ sysM G b w2 (fCut lw P n sg im kf way).2 ∧ ∀ j, (j < 77 ∨ 88 ≤ j) → w2 j = w j) := by
  obtain ⟨wd, hg, sc, kc, bc, bo, ag, bk, st, ims, gr, mk, rs, se, tt, tc, ⟨m0, m1, m2, m3, m4, m5, m6, m7, m8, m9, m10⟩, hst, himg, hn8⟩ := id hs
  dsimp only at m0 m3 m4 hst himg hn8
  obtain ⟨s1, e1, e2, e3, hP, hlw⟩ := id hst
  obtain ⟨o1, o2, o3, o4⟩ := id hP
  refine CI_of (L0 := [some (.ref (b + 77)), some (.int way), none]) (by decide) rfl (by simp [Value.category]) rfl (Nat.le_of_ble_eq_true rfl) rfl (fun κ X ret => ?_)
  have fr_w : ∀ j, (j < 77 ∨ 88 ≤ j) → w j = w j := fun _ _ => rfl
  refine r_iload_n X eX6_cut_0 rfl ?_
  refine cp_X6_144 X eX6_cut_1 (c_X6_isWay _ G b N w way) (by decide) rfl (Nat.le_of_ble_eq_true rfl) ?_
  refine r_ifne_b (tgt := 10) X eX6_cut_4 (by decide) (fun c_1 => ?_) (fun c_1 => ?_)
  ·
    obtain ⟨nw, hnw, rfl, hi_nw⟩ := i2n (x := way) (by omega)
    have hpos := hP.pos nw
    refine r_aload_n X eX6_cut_10 rfl ?_
    refine gf_X6_7 X eX6_cut_11 (by omega) m0 ?_
    refine r_sipush X eX6_cut_14 (nI 128) (by decide) ?_
    refine r_iload_n X eX6_cut_17 rfl ?_
    refine r_iadd X eX6_cut_18 (nI (nw + 128)) (addN (by omega)) ?_
    refine r_iald X eX6_cut_19 (by omega) m1 (by omega) (by decide) ?_
    refine r_top (y := nI (nbP P nw)) (stI_nb hst (by omega)) ?_
    refine r_iconst X eX6_cut_20 (nI 2) (by decide) ?_
    refine r_icmp_ne (tgt := 27) X eX6_cut_21 (by decide) (nI_toInt (by omega)) (nI_toInt (by omega)) (fun c_2 => ?_) (fun c_2 => ?_)
    ·
      refine r_aload_n X eX6_cut_27 rfl ?_
      refine cv_X6_124 X eX6_cut_28 (c_X6_take _ G b N w hN n wd hg sc kc bc bo ag bk st ims kf sg gr mk rs se tt tc ⟨m0, m1, m2, m3, m4, m5, m6, m7, m8, m9, m10⟩ P.1 P.2.1 e1 e2) (by decide) (by omega) m0 rfl (Nat.le_of_ble_eq_true rfl) (fun w3 hp3 => ?_)
      obtain ⟨gr2, mk2, ⟨y0K, y1K, y2K, y3K, y4K, y5K, y6K, y7K, y8K, y9K, y10K⟩, hgk, gK⟩ := hp3
      have m4_w3 : w3 77 = .inr (6, [.ref (b + 78), .ref (b + 79), .ref (b + 80), .ref (b + 81), .int (nI n), .ref (b + 82), .ref (b + 83), .int (nI P.1), .int (nI P.2.1), .ref (b + 84), .ref (b + 85), .int sc, .int kc, .int bc, .int bo, .int ag, .int bk, .ref (b + 86), .ref (b + 87)]) := y0K
      have m5_w3 : w3 78 = aI G 131 st := y1K
      have m6_w3 : w3 79 = aI G 262 ims := y2K
      have m7_w3 : w3 80 = aZ G 2 kf := y3K
      have m8_w3 : w3 81 = aI G 80 sg := y4K
      have m9_w3 : w3 82 = aI G 64 gr2 := y5K
      have m10_w3 : w3 83 = aI G 64 mk2 := y6K
      have m11_w3 : w3 84 = aI G 64 rs := y7K
      have m12_w3 : w3 85 = aI G 8 se := y8K
      have m13_w3 : w3 86 = aI G 6272 tt := y9K
      have m14_w3 : w3 87 = aI G 49 tc := y10K
      have fr_w3 : ∀ j, (j < 77 ∨ 88 ≤ j) → w3 j = w j := fun j hj => (gK j (by omega)).trans (fr_w j hj)
      have hag := stI_ag hst hgk
      refine r_aload_n X eX6_cut_31 rfl ?_
      refine r_iload_n X eX6_cut_32 rfl ?_
      refine cv_X6_150 X eX6_cut_33 (c_X6_cutWay _ G b N w3 hN n P sc kc bc bo ag bk st ims kf sg gr2 mk2 rs se tt tc ⟨m4_w3, m5_w3, m6_w3, m7_w3, m8_w3, m9_w3, m10_w3, m11_w3, m12_w3, m13_w3, m14_w3⟩ hP lw hlw e3 hag nw (by omega)) (by decide) (by omega) m4_w3 rfl (Nat.le_of_ble_eq_true rfl) (fun r15 w15 hp15 => ?_)
      obtain ⟨roC, ⟨gr3, mk3, rs3, se3, ⟨y0C, y1C, y2C, y3C, y4C, y5C, y6C, y7C, y8C, y9C, y10C⟩, hag3, gC⟩⟩ := hp15
      have m16_w15 : w15 77 = .inr (6, [.ref (b + 78), .ref (b + 79), .ref (b + 80), .ref (b + 81), .int (nI n), .ref (b + 82), .ref (b + 83), .int (nI ((cutP lw P nw).1)), .int (nI ((cutP lw P nw).2.1)), .ref (b + 84), .ref (b + 85), .int (tA lw P nw), .int (kc + kA lw P nw), .int bc, .int bo, .int ag, .int bk, .ref (b + 86), .ref (b + 87)]) := y0C
      have m17_w15 : w15 78 = aI G 131 st := y1C
      have m18_w15 : w15 79 = aI G 262 ims := y2C
      have m19_w15 : w15 80 = aZ G 2 kf := y3C
      have m20_w15 : w15 81 = aI G 80 sg := y4C
      have m21_w15 : w15 82 = aI G 64 gr3 := y5C
      have m22_w15 : w15 83 = aI G 64 mk3 := y6C
      have m23_w15 : w15 84 = aI G 64 rs3 := y7C
      have m24_w15 : w15 85 = aI G 8 se3 := y8C
      have m25_w15 : w15 86 = aI G 6272 tt := y9C
      have m26_w15 : w15 87 = aI G 49 tc := y10C
      have fr_w15 : ∀ j, (j < 77 ∨ 88 ≤ j) → w15 j = w j := fun j hj => (gC j (by omega)).trans (fr_w3 j hj)
      rw [roC]
      refine r_istore_n X eX6_cut_36 (Nat.le_of_ble_eq_true rfl) (L2 := [some (.ref (b + 77)), some (.int (nI nw)), some (.int (tA lw P nw))]) rfl ?_
      refine r_aload_n X eX6_cut_37 rfl ?_
      refine cv_X6_153 X eX6_cut_38 (c_X6_give _ G b N w15 hN n ((cutP lw P nw).1) ((cutP lw P nw).2.1) (tA lw P nw) (kc + kA lw P nw) bc bo ag bk st ims kf sg gr3 mk3 rs3 se3 tt tc ⟨m16_w15, m17_w15, m18_w15, m19_w15, m20_w15, m21_w15, m22_w15, m23_w15, m24_w15, m25_w15, m26_w15⟩ (show P.1 - (1 - nw) ≤ 8 by omega) (show P.2.1 - nw ≤ 8 by omega)) (by decide) (by omega) m16_w15 rfl (Nat.le_of_ble_eq_true rfl) (fun w27 hp27 => ?_)
      obtain ⟨st2, ⟨y0G, y1G, y2G, y3G, y4G, y5G, y6G, y7G, y8G, y9G, y10G⟩, hv1, hv2, hv3, hv4, gG⟩ := hp27
      have m28_w27 : w27 77 = .inr (6, [.ref (b + 78), .ref (b + 79), .ref (b + 80), .ref (b + 81), .int (nI n), .ref (b + 82), .ref (b + 83), .int (nI ((cutP lw P nw).1)), .int (nI ((cutP lw P nw).2.1)), .ref (b + 84), .ref (b + 85), .int (tA lw P nw), .int (kc + kA lw P nw), .int bc, .int bo, .int ag, .int bk, .ref (b + 86), .ref (b + 87)]) := y0G
      have m29_w27 : w27 78 = aI G 131 st2 := y1G
      have m30_w27 : w27 79 = aI G 262 ims := y2G
      have m31_w27 : w27 80 = aZ G 2 kf := y3G
      have m32_w27 : w27 81 = aI G 80 sg := y4G
      have m33_w27 : w27 82 = aI G 64 gr3 := y5G
      have m34_w27 : w27 83 = aI G 64 mk3 := y6G
      have m35_w27 : w27 84 = aI G 64 rs3 := y7G
      have m36_w27 : w27 85 = aI G 8 se3 := y8G
      have m37_w27 : w27 86 = aI G 6272 tt := y9G
      have m38_w27 : w27 87 = aI G 49 tc := y10G
      have fr_w27 : ∀ j, (j < 77 ∨ 88 ≤ j) → w27 j = w j := fun j hj => (gG j (by omega)).trans (fr_w15 j hj)
      refine r_iload_n X eX6_cut_41 rfl ?_
      refine r_sipush X eX6_cut_42 ((10000 : Int32)) (by decide) ?_
      refine r_iadd X eX6_cut_45 ((tA lw P nw) + ((10000 : Int32))) rfl ?_
      exact ret _ _ _ _ _ eX6_cut_46 (by rw [show fCut lw P n sg im kf (nI nw) = (tA lw P nw + 10000, (lw, cutP lw P nw, n, sg, im, kf)) from by rw [fCut, if_pos c_1, tn_nI hnw, if_pos (by omega)]]; exact ⟨rfl, ⟨_, _, _, _, _, _, _, _, _, _, _, _, _, _, _, _, ⟨m28_w27, m29_w27, m30_w27, m31_w27, m32_w27, m33_w27, m34_w27, m35_w27, m36_w27, m37_w27, m38_w27⟩, stI_of (ok_cut (by omega) hP (by omega)) hlw hag3 hv1 hv2 hv3 (hv4.trans e3), himg, hn8⟩, fr_w27⟩)
    ·
      refine r_bipush X eX6_cut_24 ((-3 : Int32)) (by decide) ?_
      exact ret _ _ _ _ _ eX6_cut_26 (by rw [show fCut lw P n sg im kf (nI nw) = (-3, (lw, P, n, sg, im, kf)) from by rw [fCut, if_pos c_1, tn_nI hnw, if_neg (by omega)]]; exact ⟨rfl, ⟨_, _, _, _, _, _, _, _, _, _, _, _, _, _, _, _, ⟨m0, m1, m2, m3, m4, m5, m6, m7, m8, m9, m10⟩, hst, himg, hn8⟩, fr_w⟩)
  ·
    refine r_bipush X eX6_cut_7 ((-2 : Int32)) (by decide) ?_
    exact ret _ _ _ _ _ eX6_cut_9 (by rw [show fCut lw P n sg im kf way = (-2, (lw, P, n, sg, im, kf)) from if_neg c_1]; exact ⟨rfl, ⟨_, _, _, _, _, _, _, _, _, _, _, _, _, _, _, _, ⟨m0, m1, m2, m3, m4, m5, m6, m7, m8, m9, m10⟩, hst, himg, hn8⟩, fr_w⟩)
set_option maxHeartbeats 4000000 in
set_option maxRecDepth 100000 in
theorem c_X6_add (l : Launch) (G : Gs) (b N : Nat) (w : Wd) (hN : 88 ≤ N) (lw : Nat) (P : Pc) (n : Nat) (sg : Nat → Int32) (im : Nat → Nat × Pc) (kf : Nat → Int32) (hs : sysM G b w (lw, P, n, sg, im, kf)) (hkb : ∀ i, i < 2 → kf i = 0 ∨ kf i = 1) (way : Int32) : CI l yX6_add cX6_add 2 (some .int) 10 G b N w [.ref (b + 77), .int way] (fun r w2 => r = (fAdd lw P n sg im kf way).1 ∧ sysM G b w2 (fAdd lw P n sg im kf way).2 ∧ ∀ j, (j < 77 ∨ 88 ≤ j) → w2 j = w j) := by
  obtain ⟨wd, hg, sc, kc, bc, bo, ag, bk, st, ims, gr, mk, rs, se, tt, tc, ⟨m0, m1, m2, m3, m4, m5, m6, m7, m8, m9, m10⟩, hst, himg, hn8⟩ := id hs
  dsimp only at m0 m3 m4 hst himg hn8
  obtain ⟨s1, e1, e2, e3, hP, hlw⟩ := id hst
  obtain ⟨o1, o2, o3, o4⟩ := id hP
  refine CI_of (L0 := [some (.ref (b + 77)), some (.int way)]) (by decide) rfl (by simp [Value.category]) rfl (Nat.le_of_ble_eq_true rfl) rfl (fun κ X ret => ?_)
  have fr_w : ∀ j, (j < 77 ∨ 88 ≤ j) → w j = w j := fun _ _ => rfl
  refine r_iload_n X eX6_add_0 rfl ?_
  refine cp_X6_144 X eX6_add_1 (c_X6_isWay _ G b N w way) (by decide) rfl (Nat.le_of_ble_eq_true rfl) ?_
  refine r_ifne_b (tgt := 10) X eX6_add_4 (by decide) (fun c_1 => ?_) (fun c_1 => ?_)
  ·
    obtain ⟨nw, hnw, rfl, hi_nw⟩ := i2n (x := way) (by omega)
    have hpos := hP.pos nw
    refine r_aload_n X eX6_add_10 rfl ?_
    refine gf_X6_7 X eX6_add_11 (by omega) m0 ?_
    refine r_sipush X eX6_add_14 (nI 128) (by decide) ?_
    refine r_iload_n X eX6_add_17 rfl ?_
    refine r_iadd X eX6_add_18 (nI (nw + 128)) (addN (by omega)) ?_
    refine r_iald X eX6_add_19 (by omega) m1 (by omega) (by decide) ?_
    refine r_top (y := nI (nbP P nw)) (stI_nb hst (by omega)) ?_
    refine r_bipush X eX6_add_20 (nI 8) (by decide) ?_
    refine r_icmp_ne (tgt := 28) X eX6_add_22 (by decide) (nI_toInt (by omega)) (nI_toInt (by omega)) (fun c_2 => ?_) (fun c_2 => ?_)
    ·
      have hnb8 := nb_le8 (P := P) (way := nw) (by omega) (by omega) (by omega) (by omega)
      refine r_aload_n X eX6_add_28 rfl ?_
      refine cv_X6_124 X eX6_add_29 (c_X6_take _ G b N w hN n wd hg sc kc bc bo ag bk st ims kf sg gr mk rs se tt tc ⟨m0, m1, m2, m3, m4, m5, m6, m7, m8, m9, m10⟩ P.1 P.2.1 e1 e2) (by decide) (by omega) m0 rfl (Nat.le_of_ble_eq_true rfl) (fun w3 hp3 => ?_)
      obtain ⟨gr2, mk2, ⟨y0K, y1K, y2K, y3K, y4K, y5K, y6K, y7K, y8K, y9K, y10K⟩, hgk, gK⟩ := hp3
      have m4_w3 : w3 77 = .inr (6, [.ref (b + 78), .ref (b + 79), .ref (b + 80), .ref (b + 81), .int (nI n), .ref (b + 82), .ref (b + 83), .int (nI P.1), .int (nI P.2.1), .ref (b + 84), .ref (b + 85), .int sc, .int kc, .int bc, .int bo, .int ag, .int bk, .ref (b + 86), .ref (b + 87)]) := y0K
      have m5_w3 : w3 78 = aI G 131 st := y1K
      have m6_w3 : w3 79 = aI G 262 ims := y2K
      have m7_w3 : w3 80 = aZ G 2 kf := y3K
      have m8_w3 : w3 81 = aI G 80 sg := y4K
      have m9_w3 : w3 82 = aI G 64 gr2 := y5K
      have m10_w3 : w3 83 = aI G 64 mk2 := y6K
      have m11_w3 : w3 84 = aI G 64 rs := y7K
      have m12_w3 : w3 85 = aI G 8 se := y8K
      have m13_w3 : w3 86 = aI G 6272 tt := y9K
      have m14_w3 : w3 87 = aI G 49 tc := y10K
      have fr_w3 : ∀ j, (j < 77 ∨ 88 ≤ j) → w3 j = w j := fun j hj => (gK j (by omega)).trans (fr_w j hj)
      have hag := stI_ag hst hgk
      refine r_aload_n X eX6_add_32 rfl ?_
      refine r_iload_n X eX6_add_33 rfl ?_
      refine cv_X6_110 X eX6_add_34 (c_X6_layWay _ G b N w3 hN n P sc kc bc bo ag bk st ims kf sg gr2 mk2 rs se tt tc ⟨m4_w3, m5_w3, m6_w3, m7_w3, m8_w3, m9_w3, m10_w3, m11_w3, m12_w3, m13_w3, m14_w3⟩ hP lw hlw e3 hag nw (by omega)) (by decide) (by omega) m4_w3 rfl (Nat.le_of_ble_eq_true rfl) (fun w15 hp15 => ?_)
      obtain ⟨gr1, mk1, rs1, se1, ⟨y0W, y1W, y2W, y3W, y4W, y5W, y6W, y7W, y8W, y9W, y10W⟩, hag1, hok1, gW⟩ := hp15
      have m16_w15 : w15 77 = .inr (6, [.ref (b + 78), .ref (b + 79), .ref (b + 80), .ref (b + 81), .int (nI n), .ref (b + 82), .ref (b + 83), .int (nI (nbP P nw)), .int (nI (nlP P nw)), .ref (b + 84), .ref (b + 85), .int (tA lw P nw), .int kc, .int bc, .int bo, .int ag, .int bk, .ref (b + 86), .ref (b + 87)]) := y0W
      have m17_w15 : w15 78 = aI G 131 st := y1W
      have m18_w15 : w15 79 = aI G 262 ims := y2W
      have m19_w15 : w15 80 = aZ G 2 kf := y3W
      have m20_w15 : w15 81 = aI G 80 sg := y4W
      have m21_w15 : w15 82 = aI G 64 gr1 := y5W
      have m22_w15 : w15 83 = aI G 64 mk1 := y6W
      have m23_w15 : w15 84 = aI G 64 rs1 := y7W
      have m24_w15 : w15 85 = aI G 8 se1 := y8W
      have m25_w15 : w15 86 = aI G 6272 tt := y9W
      have m26_w15 : w15 87 = aI G 49 tc := y10W
      have fr_w15 : ∀ j, (j < 77 ∨ 88 ≤ j) → w15 j = w j := fun j hj => (gW j (by omega)).trans (fr_w3 j hj)
      refine r_aload_n X eX6_add_37 rfl ?_
      refine cv_X6_156 X eX6_add_38 (c_X6_addSeam _ G b N w15 hN n (nbP P nw) (nlP P nw) (tA lw P nw) kc bc bo ag bk st ims kf sg gr1 mk1 rs1 se1 tt tc ⟨m16_w15, m17_w15, m18_w15, m19_w15, m20_w15, m21_w15, m22_w15, m23_w15, m24_w15, m25_w15, m26_w15⟩ (by omega) (by omega) (by omega) (by omega) (sA lw P nw) hok1) (by decide) (by omega) m16_w15 rfl (Nat.le_of_ble_eq_true rfl) (fun w27 hp27 => ?_)
      obtain ⟨gr4, mk4, ⟨y0D, y1D, y2D, y3D, y4D, y5D, y6D, y7D, y8D, y9D, y10D⟩, had, gD⟩ := hp27
      rw [← nb_add (lw := lw) (show nw < 2 by omega), ← nl_add (lw := lw) (show nw < 2 by omega)] at y0D
      have m28_w27 : w27 77 = .inr (6, [.ref (b + 78), .ref (b + 79), .ref (b + 80), .ref (b + 81), .int (nI n), .ref (b + 82), .ref (b + 83), .int (nI (nbP (addP lw P nw) nw)), .int (nI (nlP (addP lw P nw) nw)), .ref (b + 84), .ref (b + 85), .int (tA lw P nw), .int kc, .int bc, .int bo, .int ag, .int bk, .ref (b + 86), .ref (b + 87)]) := y0D
      have m29_w27 : w27 78 = aI G 131 st := y1D
      have m30_w27 : w27 79 = aI G 262 ims := y2D
      have m31_w27 : w27 80 = aZ G 2 kf := y3D
      have m32_w27 : w27 81 = aI G 80 sg := y4D
      have m33_w27 : w27 82 = aI G 64 gr4 := y5D
      have m34_w27 : w27 83 = aI G 64 mk4 := y6D
      have m35_w27 : w27 84 = aI G 64 rs1 := y7D
      have m36_w27 : w27 85 = aI G 8 se1 := y8D
      have m37_w27 : w27 86 = aI G 6272 tt := y9D
      have m38_w27 : w27 87 = aI G 49 tc := y10D
      have fr_w27 : ∀ j, (j < 77 ∨ 88 ≤ j) → w27 j = w j := fun j hj => (gD j (by omega)).trans (fr_w15 j hj)
      have hag2 := agG_add (show nw < 2 by omega) hP hag1 had
      refine r_aload_n X eX6_add_41 rfl ?_
      refine r_iload_n X eX6_add_42 rfl ?_
      refine cv_X6_117 X eX6_add_43 (c_X6_leaveWay _ G b N w27 hN n (addP lw P nw) nw (tA lw P nw) kc bc bo ag bk st ims kf sg gr4 mk4 rs1 se1 tt tc ⟨m28_w27, m29_w27, m30_w27, m31_w27, m32_w27, m33_w27, m34_w27, m35_w27, m36_w27, m37_w27, m38_w27⟩ (by omega) hag2 (show P.1 + (1 - nw) ≤ 8 by omega) (show P.2.1 + nw ≤ 8 by omega)) (by decide) (by omega) m28_w27 rfl (Nat.le_of_ble_eq_true rfl) (fun w39 hp39 => ?_)
      obtain ⟨gr3, mk3, ⟨y0E, y1E, y2E, y3E, y4E, y5E, y6E, y7E, y8E, y9E, y10E⟩, hag3, gE⟩ := hp39
      have m40_w39 : w39 77 = .inr (6, [.ref (b + 78), .ref (b + 79), .ref (b + 80), .ref (b + 81), .int (nI n), .ref (b + 82), .ref (b + 83), .int (nI ((addP lw P nw).1)), .int (nI ((addP lw P nw).2.1)), .ref (b + 84), .ref (b + 85), .int (tA lw P nw), .int kc, .int bc, .int bo, .int ag, .int bk, .ref (b + 86), .ref (b + 87)]) := y0E
      have m41_w39 : w39 78 = aI G 131 st := y1E
      have m42_w39 : w39 79 = aI G 262 ims := y2E
      have m43_w39 : w39 80 = aZ G 2 kf := y3E
      have m44_w39 : w39 81 = aI G 80 sg := y4E
      have m45_w39 : w39 82 = aI G 64 gr3 := y5E
      have m46_w39 : w39 83 = aI G 64 mk3 := y6E
      have m47_w39 : w39 84 = aI G 64 rs1 := y7E
      have m48_w39 : w39 85 = aI G 8 se1 := y8E
      have m49_w39 : w39 86 = aI G 6272 tt := y9E
      have m50_w39 : w39 87 = aI G 49 tc := y10E
      have fr_w39 : ∀ j, (j < 77 ∨ 88 ≤ j) → w39 j = w j := fun j hj => (gE j (by omega)).trans (fr_w27 j hj)
      refine r_aload_n X eX6_add_46 rfl ?_
      refine cv_X6_153 X eX6_add_47 (c_X6_give _ G b N w39 hN n ((addP lw P nw).1) ((addP lw P nw).2.1) (tA lw P nw) kc bc bo ag bk st ims kf sg gr3 mk3 rs1 se1 tt tc ⟨m40_w39, m41_w39, m42_w39, m43_w39, m44_w39, m45_w39, m46_w39, m47_w39, m48_w39, m49_w39, m50_w39⟩ (show P.1 + (1 - nw) ≤ 8 by omega) (show P.2.1 + nw ≤ 8 by omega)) (by decide) (by omega) m40_w39 rfl (Nat.le_of_ble_eq_true rfl) (fun w51 hp51 => ?_)
      obtain ⟨st2, ⟨y0G, y1G, y2G, y3G, y4G, y5G, y6G, y7G, y8G, y9G, y10G⟩, hv1, hv2, hv3, hv4, gG⟩ := hp51
      have m52_w51 : w51 77 = .inr (6, [.ref (b + 78), .ref (b + 79), .ref (b + 80), .ref (b + 81), .int (nI n), .ref (b + 82), .ref (b + 83), .int (nI ((addP lw P nw).1)), .int (nI ((addP lw P nw).2.1)), .ref (b + 84), .ref (b + 85), .int (tA lw P nw), .int kc, .int bc, .int bo, .int ag, .int bk, .ref (b + 86), .ref (b + 87)]) := y0G
      have m53_w51 : w51 78 = aI G 131 st2 := y1G
      have m54_w51 : w51 79 = aI G 262 ims := y2G
      have m55_w51 : w51 80 = aZ G 2 kf := y3G
      have m56_w51 : w51 81 = aI G 80 sg := y4G
      have m57_w51 : w51 82 = aI G 64 gr3 := y5G
      have m58_w51 : w51 83 = aI G 64 mk3 := y6G
      have m59_w51 : w51 84 = aI G 64 rs1 := y7G
      have m60_w51 : w51 85 = aI G 8 se1 := y8G
      have m61_w51 : w51 86 = aI G 6272 tt := y9G
      have m62_w51 : w51 87 = aI G 49 tc := y10G
      have fr_w51 : ∀ j, (j < 77 ∨ 88 ≤ j) → w51 j = w j := fun j hj => (gG j (by omega)).trans (fr_w39 j hj)
      refine r_aload_n X eX6_add_50 rfl ?_
      refine gf_X6_94 X eX6_add_51 (by omega) m52_w51 ?_
      refine r_sipush X eX6_add_54 ((10000 : Int32)) (by decide) ?_
      refine r_iadd X eX6_add_57 ((tA lw P nw) + ((10000 : Int32))) rfl ?_
      exact ret _ _ _ _ _ eX6_add_58 (by rw [show fAdd lw P n sg im kf (nI nw) = (tA lw P nw + 10000, (lw, addP lw P nw, n, sg, im, kf)) from by rw [fAdd, if_pos c_1, tn_nI hnw, if_pos (by omega)]]; exact ⟨rfl, ⟨_, _, _, _, _, _, _, _, _, _, _, _, _, _, _, _, ⟨m52_w51, m53_w51, m54_w51, m55_w51, m56_w51, m57_w51, m58_w51, m59_w51, m60_w51, m61_w51, m62_w51⟩, stI_of (ok_add (by omega) hP (by omega)) hlw hag3 hv1 hv2 hv3 (hv4.trans e3), himg, hn8⟩, fr_w51⟩)
    ·
      refine r_bipush X eX6_add_25 ((-3 : Int32)) (by decide) ?_
      exact ret _ _ _ _ _ eX6_add_27 (by rw [show fAdd lw P n sg im kf (nI nw) = (-3, (lw, P, n, sg, im, kf)) from by rw [fAdd, if_pos c_1, tn_nI hnw, if_neg (by omega)]]; exact ⟨rfl, ⟨_, _, _, _, _, _, _, _, _, _, _, _, _, _, _, _, ⟨m0, m1, m2, m3, m4, m5, m6, m7, m8, m9, m10⟩, hst, himg, hn8⟩, fr_w⟩)
  ·
    refine r_bipush X eX6_add_7 ((-2 : Int32)) (by decide) ?_
    exact ret _ _ _ _ _ eX6_add_9 (by rw [show fAdd lw P n sg im kf way = (-2, (lw, P, n, sg, im, kf)) from if_neg c_1]; exact ⟨rfl, ⟨_, _, _, _, _, _, _, _, _, _, _, _, _, _, _, _, ⟨m0, m1, m2, m3, m4, m5, m6, m7, m8, m9, m10⟩, hst, himg, hn8⟩, fr_w⟩)
set_option maxHeartbeats 4000000 in
set_option maxRecDepth 100000 in
theorem c_X6_least (l : Launch) (G : Gs) (b N : Nat) (w : Wd) (hN : 88 ≤ N) (lw : Nat) (P : Pc) (n : Nat) (sg : Nat → Int32) (im : Nat → Nat × Pc) (kf : Nat → Int32) (hs : sysM G b w (lw, P, n, sg, im, kf)) (hkb : ∀ i, i < 2 → kf i = 0 ∨ kf i = 1) (way i : Int32) : CI l yX6_least cX6_least 5 (some .int) 6 G b N w [.ref (b + 77), .int way, .int i] (fun r w2 => r = aLeast P way i ∧ sysM G b w2 (lw, P, n, sg, im, kf) ∧ ∀ j, (j < 77 ∨ 88 ≤ j) → w2 j = w j) := by
  obtain ⟨wd, hg, sc, kc, bc, bo, ag, bk, st, ims, gr, mk, rs, se, tt, tc, ⟨m0, m1, m2, m3, m4, m5, m6, m7, m8, m9, m10⟩, hst, himg, hn8⟩ := id hs
  dsimp only at m0 m3 m4 hst himg hn8
  obtain ⟨s1, e1, e2, e3, hP, hlw⟩ := id hst
  obtain ⟨o1, o2, o3, o4⟩ := id hP
  refine CI_of (L0 := [some (.ref (b + 77)), some (.int way), some (.int i), none, none]) (by decide) rfl (by simp [Value.category]) rfl (Nat.le_of_ble_eq_true rfl) rfl (fun κ X ret => ?_)
  have fr_w : ∀ j, (j < 77 ∨ 88 ≤ j) → w j = w j := fun _ _ => rfl
  refine r_iload_n X eX6_least_0 rfl ?_
  refine cp_X6_144 X eX6_least_1 (c_X6_isWay _ G b N w way) (by decide) rfl (Nat.le_of_ble_eq_true rfl) ?_
  refine r_ifne_b (tgt := 10) X eX6_least_4 (by decide) (fun c_1 => ?_) (fun c_1 => ?_)
  ·
    obtain ⟨nw, hnw, rfl, hi_nw⟩ := i2n (x := way) (by omega)
    have hpos := hP.pos nw
    refine r_iload_n X eX6_least_10 rfl ?_
    refine r_iconst X eX6_least_11 (nI 0) (by decide) ?_
    refine r_aload_n X eX6_least_12 rfl ?_
    refine gf_X6_7 X eX6_least_13 (by omega) m0 ?_
    refine r_sipush X eX6_least_16 (nI 129) (by decide) ?_
    refine r_iload_n X eX6_least_19 rfl ?_
    refine r_isub X eX6_least_20 (nI (129 - nw)) (pk_sub (by omega)) ?_
    refine r_iald X eX6_least_21 (by omega) m1 (by omega) (by decide) ?_
    refine r_top (y := nI (nlP P nw)) (stI_nl hst (by omega)) ?_
    refine r_iconst X eX6_least_22 (nI 1) (by decide) ?_
    refine r_isub X eX6_least_23 (nI ((nlP P nw) - 1)) (pk_sub (by omega)) ?_
    refine cp_X6_41 X eX6_least_24 (c_X6_in _ G b N w (i) (nI 0) (nI ((nlP P nw) - 1)) (i.toInt) (0) (((nlP P nw - 1 : Nat) : Int)) rfl (nI_toInt (by omega)) (nI_toInt (by omega))) (by decide) rfl (Nat.le_of_ble_eq_true rfl) ?_
    refine r_ifne_b (tgt := 32) X eX6_least_27 (by decide) (fun c_2 => ?_) (fun c_2 => ?_)
    ·
      obtain ⟨ni, hni, rfl, hi_ni⟩ := i2n (x := i) (by omega)
      refine r_aload_n X eX6_least_32 rfl ?_
      refine cv_X6_124 X eX6_least_33 (c_X6_take _ G b N w hN n wd hg sc kc bc bo ag bk st ims kf sg gr mk rs se tt tc ⟨m0, m1, m2, m3, m4, m5, m6, m7, m8, m9, m10⟩ P.1 P.2.1 e1 e2) (by decide) (by omega) m0 rfl (Nat.le_of_ble_eq_true rfl) (fun w3 hp3 => ?_)
      obtain ⟨gr2, mk2, ⟨y0K, y1K, y2K, y3K, y4K, y5K, y6K, y7K, y8K, y9K, y10K⟩, hgk, gK⟩ := hp3
      have m4_w3 : w3 77 = .inr (6, [.ref (b + 78), .ref (b + 79), .ref (b + 80), .ref (b + 81), .int (nI n), .ref (b + 82), .ref (b + 83), .int (nI P.1), .int (nI P.2.1), .ref (b + 84), .ref (b + 85), .int sc, .int kc, .int bc, .int bo, .int ag, .int bk, .ref (b + 86), .ref (b + 87)]) := y0K
      have m5_w3 : w3 78 = aI G 131 st := y1K
      have m6_w3 : w3 79 = aI G 262 ims := y2K
      have m7_w3 : w3 80 = aZ G 2 kf := y3K
      have m8_w3 : w3 81 = aI G 80 sg := y4K
      have m9_w3 : w3 82 = aI G 64 gr2 := y5K
      have m10_w3 : w3 83 = aI G 64 mk2 := y6K
      have m11_w3 : w3 84 = aI G 64 rs := y7K
      have m12_w3 : w3 85 = aI G 8 se := y8K
      have m13_w3 : w3 86 = aI G 6272 tt := y9K
      have m14_w3 : w3 87 = aI G 49 tc := y10K
      have fr_w3 : ∀ j, (j < 77 ∨ 88 ≤ j) → w3 j = w j := fun j hj => (gK j (by omega)).trans (fr_w j hj)
      have hag := stI_ag hst hgk
      refine r_iload_n X eX6_least_36 rfl ?_
      refine r_iconst X eX6_least_37 (nI 1) (by decide) ?_
      refine r_icmp_ne (tgt := 45) X eX6_least_38 (by decide) (nI_toInt (by omega)) (nI_toInt (by omega)) (fun c_15 => ?_) (fun c_15 => ?_)
      ·
        obtain rfl : nw = 0 := by omega
        have hnl0 : nlP P 0 = P.2.1 := rfl
        have hnl1 : nlP P 1 = P.1 := rfl
        refine r_iconst X eX6_least_45 (nI 0) (by decide) ?_
        refine r_istore_n X eX6_least_46 (Nat.le_of_ble_eq_true rfl) (L2 := [some (.ref (b + 77)), some (.int (nI 0)), some (.int (nI ni)), some (.int (nI 0)), none]) rfl ?_
        refine r_iconst X eX6_least_47 (nI 1) (by decide) ?_
        refine r_istore X eX6_least_48 (Nat.le_of_ble_eq_true rfl) (L2 := [some (.ref (b + 77)), some (.int (nI 0)), some (.int (nI ni)), some (.int (nI 0)), some (.int (nI 1))]) rfl ?_
        have lp16 : ∀ (fu : Nat) (i v : Nat), (i + 1 ≤ P.1) → (v = am (fun p => wtS P.1 P.2.1 (mv gr2) (mv mk2) ni p) 0 i) → (v ≤ i) → P.1 - i < fu → V κ G b (N, 0, 0) w3 50 [some (.ref (b + 77)), some (.int (nI 0)), some (.int (nI ni)), some (.int (nI v)), some (.int (nI (i + 1)))] [] := by
          intro fu
          induction fu with
          | zero => intro i v hi hv hvl hm; exact absurd hm (Nat.not_lt_zero _)
          | succ fu ih16 =>
            intro i v hi hv hvl hm
            refine r_iload X eX6_least_50 rfl ?_
            refine r_aload_n X eX6_least_52 rfl ?_
            refine gf_X6_45 X eX6_least_53 (by omega) m4_w3 ?_
            refine r_icmp_ge (tgt := 88) X eX6_least_56 (by decide) (nI_toInt (by omega)) (nI_toInt (by omega)) (fun c_17 => ?_) (fun c_17 => ?_)
            ·
              refine r_iload_n X eX6_least_88 rfl ?_
              exact ret _ _ _ _ _ eX6_least_89 (⟨by rw [aLeast, if_pos c_1, tn_nI hnw, if_pos (by omega), tn_nI hni, hv]; exact congrArg nI (by rw [leS, show i = nbP P 0 - 1 by show i = P.1 - 1; omega]; exact am_congr (fun j _ hj => wt_agW (way := 0) hP hag (by omega) (by omega))), ⟨_, _, _, _, _, _, _, _, _, _, _, _, _, _, _, _, ⟨m4_w3, m5_w3, m6_w3, m7_w3, m8_w3, m9_w3, m10_w3, m11_w3, m12_w3, m13_w3, m14_w3⟩, hst, himg, hn8⟩, fr_w3⟩)
            ·
              refine r_aload_n X eX6_least_59 rfl ?_
              refine r_iload X eX6_least_60 rfl ?_
              refine r_iload_n X eX6_least_62 rfl ?_
              refine cp_X6_84 X eX6_least_63 (c_X6_weight _ G b N w3 hN n P.1 P.2.1 sc kc bc bo ag bk st ims kf sg gr2 mk2 rs se tt tc ⟨m4_w3, m5_w3, m6_w3, m7_w3, m8_w3, m9_w3, m10_w3, m11_w3, m12_w3, m13_w3, m14_w3⟩ (i + 1) ni (by omega) (by omega) (by omega) (by omega)) (by decide) (by omega) m4_w3 rfl (Nat.le_of_ble_eq_true rfl) ?_
              refine r_aload_n X eX6_least_66 rfl ?_
              refine r_iload_n X eX6_least_67 rfl ?_
              refine r_iload_n X eX6_least_68 rfl ?_
              refine cp_X6_84 X eX6_least_69 (c_X6_weight _ G b N w3 hN n P.1 P.2.1 sc kc bc bo ag bk st ims kf sg gr2 mk2 rs se tt tc ⟨m4_w3, m5_w3, m6_w3, m7_w3, m8_w3, m9_w3, m10_w3, m11_w3, m12_w3, m13_w3, m14_w3⟩ v ni (by omega) (by omega) (by omega) (by omega)) (by decide) (by omega) m4_w3 rfl (Nat.le_of_ble_eq_true rfl) ?_
              refine r_icmp_ge (tgt := 80) X eX6_least_72 (by decide) rfl rfl (fun c_18 => ?_) (fun c_18 => ?_)
              ·
                refine r_iload_n X eX6_least_80 rfl ?_
                refine r_istore_n X eX6_least_81 (Nat.le_of_ble_eq_true rfl) (L2 := [some (.ref (b + 77)), some (.int (nI 0)), some (.int (nI ni)), some (.int (nI v)), some (.int (nI (i + 1)))]) rfl ?_
                refine r_iinc X eX6_least_82 rfl (nI (i + 2)) (inc_nI _) (L2 := [some (.ref (b + 77)), some (.int (nI 0)), some (.int (nI ni)), some (.int (nI v)), some (.int (nI (i + 2)))]) rfl ?_
                refine r_goto (tgt := 50) X eX6_least_85 (by decide) ?_
                exact ih16 (i + 1) v  (by omega) (am_f (f := (fun p => wtS P.1 P.2.1 (mv gr2) (mv mk2) ni p)) hv c_18) (by omega)  (by omega)
              ·
                refine r_iload X eX6_least_75 rfl ?_
                refine r_goto (tgt := 81) X eX6_least_77 (by decide) ?_
                refine r_istore_n X eX6_least_81 (Nat.le_of_ble_eq_true rfl) (L2 := [some (.ref (b + 77)), some (.int (nI 0)), some (.int (nI ni)), some (.int (nI (i + 1))), some (.int (nI (i + 1)))]) rfl ?_
                refine r_iinc X eX6_least_82 rfl (nI (i + 2)) (inc_nI _) (L2 := [some (.ref (b + 77)), some (.int (nI 0)), some (.int (nI ni)), some (.int (nI (i + 1))), some (.int (nI (i + 2)))]) rfl ?_
                refine r_goto (tgt := 50) X eX6_least_85 (by decide) ?_
                exact ih16 (i + 1) (i + 1)  (by omega) (am_t (f := (fun p => wtS P.1 P.2.1 (mv gr2) (mv mk2) ni p)) hv c_18) (by omega)  (by omega)
        exact lp16 _ 0 0  (by omega) rfl (by omega)  (Nat.lt_succ_self _)
      ·
        obtain rfl : nw = 1 := by omega
        have hnl0 : nlP P 0 = P.2.1 := rfl
        have hnl1 : nlP P 1 = P.1 := rfl
        refine r_aload_n X eX6_least_41 rfl ?_
        refine cv_X6_97 X eX6_least_42 (c_X6_turn _ G b N w3 hN n P.1 P.2.1 sc kc bc bo ag bk st ims kf sg gr2 mk2 rs se tt tc ⟨m4_w3, m5_w3, m6_w3, m7_w3, m8_w3, m9_w3, m10_w3, m11_w3, m12_w3, m13_w3, m14_w3⟩ ) (by decide) (by omega) m4_w3 rfl (Nat.le_of_ble_eq_true rfl) (fun w19 hp19 => ?_)
        obtain ⟨gr5, mk5, ⟨y0T, y1T, y2T, y3T, y4T, y5T, y6T, y7T, y8T, y9T, y10T⟩, hT, gT⟩ := hp19
        have m20_w19 : w19 77 = .inr (6, [.ref (b + 78), .ref (b + 79), .ref (b + 80), .ref (b + 81), .int (nI n), .ref (b + 82), .ref (b + 83), .int (nI P.2.1), .int (nI P.1), .ref (b + 84), .ref (b + 85), .int sc, .int kc, .int bc, .int bo, .int ag, .int bk, .ref (b + 86), .ref (b + 87)]) := y0T
        have m21_w19 : w19 78 = aI G 131 st := y1T
        have m22_w19 : w19 79 = aI G 262 ims := y2T
        have m23_w19 : w19 80 = aZ G 2 kf := y3T
        have m24_w19 : w19 81 = aI G 80 sg := y4T
        have m25_w19 : w19 82 = aI G 64 gr5 := y5T
        have m26_w19 : w19 83 = aI G 64 mk5 := y6T
        have m27_w19 : w19 84 = aI G 64 rs := y7T
        have m28_w19 : w19 85 = aI G 8 se := y8T
        have m29_w19 : w19 86 = aI G 6272 tt := y9T
        have m30_w19 : w19 87 = aI G 49 tc := y10T
        have fr_w19 : ∀ j, (j < 77 ∨ 88 ≤ j) → w19 j = w j := fun j hj => (gT j (by omega)).trans (fr_w3 j hj)
        have hag5 := agG_turn hP hag hT
        refine r_iconst X eX6_least_45 (nI 0) (by decide) ?_
        refine r_istore_n X eX6_least_46 (Nat.le_of_ble_eq_true rfl) (L2 := [some (.ref (b + 77)), some (.int (nI 1)), some (.int (nI ni)), some (.int (nI 0)), none]) rfl ?_
        refine r_iconst X eX6_least_47 (nI 1) (by decide) ?_
        refine r_istore X eX6_least_48 (Nat.le_of_ble_eq_true rfl) (L2 := [some (.ref (b + 77)), some (.int (nI 1)), some (.int (nI ni)), some (.int (nI 0)), some (.int (nI 1))]) rfl ?_
        have lp31 : ∀ (fu : Nat) (i v : Nat), (i + 1 ≤ P.2.1) → (v = am (fun p => wtS P.2.1 P.1 (mv gr5) (mv mk5) ni p) 0 i) → (v ≤ i) → P.2.1 - i < fu → V κ G b (N, 0, 0) w19 50 [some (.ref (b + 77)), some (.int (nI 1)), some (.int (nI ni)), some (.int (nI v)), some (.int (nI (i + 1)))] [] := by
          intro fu
          induction fu with
          | zero => intro i v hi hv hvl hm; exact absurd hm (Nat.not_lt_zero _)
          | succ fu ih31 =>
            intro i v hi hv hvl hm
            refine r_iload X eX6_least_50 rfl ?_
            refine r_aload_n X eX6_least_52 rfl ?_
            refine gf_X6_45 X eX6_least_53 (by omega) m20_w19 ?_
            refine r_icmp_ge (tgt := 88) X eX6_least_56 (by decide) (nI_toInt (by omega)) (nI_toInt (by omega)) (fun c_32 => ?_) (fun c_32 => ?_)
            ·
              refine r_iload_n X eX6_least_88 rfl ?_
              exact ret _ _ _ _ _ eX6_least_89 (⟨by rw [aLeast, if_pos c_1, tn_nI hnw, if_pos (by omega), tn_nI hni, hv]; exact congrArg nI (by rw [leS, show i = nbP P 1 - 1 by show i = P.2.1 - 1; omega]; exact am_congr (fun j _ hj => wt_agW (way := 1) hP hag5 (by omega) (by omega))), ⟨_, _, _, _, _, _, _, _, _, _, _, _, _, _, _, _, ⟨m20_w19, m21_w19, m22_w19, m23_w19, m24_w19, m25_w19, m26_w19, m27_w19, m28_w19, m29_w19, m30_w19⟩, hst, himg, hn8⟩, fr_w19⟩)
            ·
              refine r_aload_n X eX6_least_59 rfl ?_
              refine r_iload X eX6_least_60 rfl ?_
              refine r_iload_n X eX6_least_62 rfl ?_
              refine cp_X6_84 X eX6_least_63 (c_X6_weight _ G b N w19 hN n P.2.1 P.1 sc kc bc bo ag bk st ims kf sg gr5 mk5 rs se tt tc ⟨m20_w19, m21_w19, m22_w19, m23_w19, m24_w19, m25_w19, m26_w19, m27_w19, m28_w19, m29_w19, m30_w19⟩ (i + 1) ni (by omega) (by omega) (by omega) (by omega)) (by decide) (by omega) m20_w19 rfl (Nat.le_of_ble_eq_true rfl) ?_
              refine r_aload_n X eX6_least_66 rfl ?_
              refine r_iload_n X eX6_least_67 rfl ?_
              refine r_iload_n X eX6_least_68 rfl ?_
              refine cp_X6_84 X eX6_least_69 (c_X6_weight _ G b N w19 hN n P.2.1 P.1 sc kc bc bo ag bk st ims kf sg gr5 mk5 rs se tt tc ⟨m20_w19, m21_w19, m22_w19, m23_w19, m24_w19, m25_w19, m26_w19, m27_w19, m28_w19, m29_w19, m30_w19⟩ v ni (by omega) (by omega) (by omega) (by omega)) (by decide) (by omega) m20_w19 rfl (Nat.le_of_ble_eq_true rfl) ?_
              refine r_icmp_ge (tgt := 80) X eX6_least_72 (by decide) rfl rfl (fun c_33 => ?_) (fun c_33 => ?_)
              ·
                refine r_iload_n X eX6_least_80 rfl ?_
                refine r_istore_n X eX6_least_81 (Nat.le_of_ble_eq_true rfl) (L2 := [some (.ref (b + 77)), some (.int (nI 1)), some (.int (nI ni)), some (.int (nI v)), some (.int (nI (i + 1)))]) rfl ?_
                refine r_iinc X eX6_least_82 rfl (nI (i + 2)) (inc_nI _) (L2 := [some (.ref (b + 77)), some (.int (nI 1)), some (.int (nI ni)), some (.int (nI v)), some (.int (nI (i + 2)))]) rfl ?_
                refine r_goto (tgt := 50) X eX6_least_85 (by decide) ?_
                exact ih31 (i + 1) v  (by omega) (am_f (f := (fun p => wtS P.2.1 P.1 (mv gr5) (mv mk5) ni p)) hv c_33) (by omega)  (by omega)
              ·
                refine r_iload X eX6_least_75 rfl ?_
                refine r_goto (tgt := 81) X eX6_least_77 (by decide) ?_
                refine r_istore_n X eX6_least_81 (Nat.le_of_ble_eq_true rfl) (L2 := [some (.ref (b + 77)), some (.int (nI 1)), some (.int (nI ni)), some (.int (nI (i + 1))), some (.int (nI (i + 1)))]) rfl ?_
                refine r_iinc X eX6_least_82 rfl (nI (i + 2)) (inc_nI _) (L2 := [some (.ref (b + 77)), some (.int (nI 1)), some (.int (nI ni)), some (.int (nI (i + 1))), some (.int (nI (i + 2)))]) rfl ?_
                refine r_goto (tgt := 50) X eX6_least_85 (by decide) ?_
                exact ih31 (i + 1) (i + 1)  (by omega) (am_t (f := (fun p => wtS P.2.1 P.1 (mv gr5) (mv mk5) ni p)) hv c_33) (by omega)  (by omega)
        exact lp31 _ 0 0  (by omega) rfl (by omega)  (Nat.lt_succ_self _)
    ·
      refine r_iconst X eX6_least_30 ((-1 : Int32)) (by decide) ?_
      exact ret _ _ _ _ _ eX6_least_31 (⟨by rw [aLeast, if_pos c_1, tn_nI hnw, if_neg (by omega)], ⟨_, _, _, _, _, _, _, _, _, _, _, _, _, _, _, _, ⟨m0, m1, m2, m3, m4, m5, m6, m7, m8, m9, m10⟩, hst, himg, hn8⟩, fr_w⟩)
  ·
    refine r_bipush X eX6_least_7 ((-2 : Int32)) (by decide) ?_
    exact ret _ _ _ _ _ eX6_least_9 (⟨(if_neg c_1).symm, ⟨_, _, _, _, _, _, _, _, _, _, _, _, _, _, _, _, ⟨m0, m1, m2, m3, m4, m5, m6, m7, m8, m9, m10⟩, hst, himg, hn8⟩, fr_w⟩)
set_option maxHeartbeats 4000000 in
set_option maxRecDepth 100000 in
theorem c_X6_image (l : Launch) (G : Gs) (b N : Nat) (w : Wd) (hN : 88 ≤ N) (lw : Nat) (P : Pc) (n : Nat) (sg : Nat → Int32) (im : Nat → Nat × Pc) (kf : Nat → Int32) (hs : sysM G b w (lw, P, n, sg, im, kf)) (hkb : ∀ i, i < 2 → kf i = 0 ∨ kf i = 1) (k : Int32) : CI l yX6_image cX6_image 3 (some .int) 1 G b N w [.ref (b + 77), .int k] (fun r w2 => r = (fImage lw P n sg im kf k).1 ∧ sysM G b w2 (fImage lw P n sg im kf k).2 ∧ ∀ j, (j < 77 ∨ 88 ≤ j) → w2 j = w j) := by
  obtain ⟨wd, hg, sc, kc, bc, bo, ag, bk, st, ims, gr, mk, rs, se, tt, tc, ⟨m0, m1, m2, m3, m4, m5, m6, m7, m8, m9, m10⟩, hst, himg, hn8⟩ := id hs
  dsimp only at m0 m3 m4 hst himg hn8
  obtain ⟨s1, e1, e2, e3, hP, hlw⟩ := id hst
  obtain ⟨o1, o2, o3, o4⟩ := id hP
  refine CI_of (L0 := [some (.ref (b + 77)), some (.int k), none]) (by decide) rfl (by simp [Value.category]) rfl (Nat.le_of_ble_eq_true rfl) rfl (fun κ X ret => ?_)
  have fr_w : ∀ j, (j < 77 ∨ 88 ≤ j) → w j = w j := fun _ _ => rfl
  refine r_iload_n X eX6_image_0 rfl ?_
  refine r_iconst X eX6_image_1 (nI 0) (by decide) ?_
  refine r_iconst X eX6_image_2 (nI 1) (by decide) ?_
  refine cp_X6_41 X eX6_image_3 (c_X6_in _ G b N w (k) (nI 0) (nI 1) (k.toInt) (0) (1) rfl (nI_toInt (by omega)) (nI_toInt (by omega))) (by decide) rfl (Nat.le_of_ble_eq_true rfl) ?_
  refine r_ifne_b (tgt := 12) X eX6_image_6 (by decide) (fun c_1 => ?_) (fun c_1 => ?_)
  ·
    obtain ⟨nk, hnk, rfl, hi_nk⟩ := i2n (x := k) (by omega)
    refine r_iconst X eX6_image_12 (nI 0) (by decide) ?_
    refine r_istore_n X eX6_image_13 (Nat.le_of_ble_eq_true rfl) (L2 := [some (.ref (b + 77)), some (.int (nI nk)), some (.int (nI 0))]) rfl ?_
    have lp2 : ∀ (fu : Nat) (i : Nat) (A : Nat → Int32) (w2 : Wd), (i ≤ 131) → (∀ j, j < i → A (131 * nk + j) = st j) → (∀ j, (j < 131 * nk ∨ 131 * nk + 131 ≤ j) → A j = ims j) → (w2 77 = .inr (6, [.ref (b + 78), .ref (b + 79), .ref (b + 80), .ref (b + 81), .int (nI n), .ref (b + 82), .ref (b + 83), .int (nI wd), .int (nI hg), .ref (b + 84), .ref (b + 85), .int sc, .int kc, .int bc, .int bo, .int ag, .int bk, .ref (b + 86), .ref (b + 87)])) → (w2 78 = aI G 131 st) → (w2 79 = aI G 262 A) → (w2 80 = aZ G 2 kf) → (w2 81 = aI G 80 sg) → (w2 82 = aI G 64 gr) → (w2 83 = aI G 64 mk) → (w2 84 = aI G 64 rs) → (w2 85 = aI G 8 se) → (w2 86 = aI G 6272 tt) → (w2 87 = aI G 49 tc) → (∀ j, (j < 77 ∨ 88 ≤ j) → w2 j = w j) → 131 - i < fu → V κ G b (N, 0, 0) w2 14 [some (.ref (b + 77)), some (.int (nI nk)), some (.int (nI i))] [] := by
      intro fu
      induction fu with
      | zero => intro i A w2 hi hz ho m0_w2 m1_w2 m2_w2 m3_w2 m4_w2 m5_w2 m6_w2 m7_w2 m8_w2 m9_w2 m10_w2 fr_w2 hm; exact absurd hm (Nat.not_lt_zero _)
      | succ fu ih2 =>
        intro i A w2 hi hz ho m0_w2 m1_w2 m2_w2 m3_w2 m4_w2 m5_w2 m6_w2 m7_w2 m8_w2 m9_w2 m10_w2 fr_w2 hm
        refine r_iload_n X eX6_image_14 rfl ?_
        refine r_sipush X eX6_image_15 (nI 131) (by decide) ?_
        refine r_icmp_ge (tgt := 45) X eX6_image_18 (by decide) (nI_toInt (by omega)) (nI_toInt (by omega)) (fun c_3 => ?_) (fun c_3 => ?_)
        ·
          refine r_aload_n X eX6_image_45 rfl ?_
          refine gf_X6_16 X eX6_image_46 (by omega) m0_w2 ?_
          refine r_iload_n X eX6_image_49 rfl ?_
          refine r_iconst X eX6_image_50 (nI 1) (by decide) ?_
          refine r_zast X eX6_image_51 (by omega) m3_w2 (by omega) (by decide) (by decide) (fun w4 n4_w4 uu4 => ?_)
          have m0_w4 := (uu4 77 (by omega)).trans m0_w2
          have m1_w4 := (uu4 78 (by omega)).trans m1_w2
          have m2_w4 := (uu4 79 (by omega)).trans m2_w2
          have m4_w4 := (uu4 81 (by omega)).trans m4_w2
          have m5_w4 := (uu4 82 (by omega)).trans m5_w2
          have m6_w4 := (uu4 83 (by omega)).trans m6_w2
          have m7_w4 := (uu4 84 (by omega)).trans m7_w2
          have m8_w4 := (uu4 85 (by omega)).trans m8_w2
          have m9_w4 := (uu4 86 (by omega)).trans m9_w2
          have m10_w4 := (uu4 87 (by omega)).trans m10_w2
          have fr_w4 : ∀ j, (j < 77 ∨ 88 ≤ j) → w4 j = w j := fun j hj => (uu4 j (by omega)).trans (fr_w2 j hj)
          refine r_iconst X eX6_image_52 (nI 1) (by decide) ?_
          exact ret _ _ _ _ _ eX6_image_53 (by rw [show fImage lw P n sg im kf (nI nk) = (1, (lw, P, n, sg, fun i => if i = nk then (lw, P) else im i, upd kf nk 1)) from by rw [fImage, if_pos (by omega), tn_nI hnk]]; exact ⟨rfl, ⟨_, _, _, _, _, _, _, _, _, _, _, _, _, _, _, _, ⟨m0_w4, m1_w4, m2_w4, n4_w4, m4_w4, m5_w4, m6_w4, m7_w4, m8_w4, m9_w4, m10_w4⟩, hst, img_set himg (stI_cp hst (fun j hj => hz j (by omega))) ho, hn8⟩, fr_w4⟩)
        ·
          refine r_aload_n X eX6_image_21 rfl ?_
          refine gf_X6_13 X eX6_image_22 (by omega) m0_w2 ?_
          refine r_sipush X eX6_image_25 (nI 131) (by decide) ?_
          refine r_iload_n X eX6_image_28 rfl ?_
          refine r_imul X eX6_image_29 (nI (131 * nk)) (pk_mul _ _) ?_
          refine r_iload_n X eX6_image_30 rfl ?_
          refine r_iadd X eX6_image_31 (nI ((131 * nk) + i)) (addN (by omega)) ?_
          refine r_aload_n X eX6_image_32 rfl ?_
          refine gf_X6_7 X eX6_image_33 (by omega) m0_w2 ?_
          refine r_iload_n X eX6_image_36 rfl ?_
          refine r_iald X eX6_image_37 (by omega) m1_w2 (by omega) (by decide) ?_
          refine r_iast X eX6_image_38 (by omega) m2_w2 (by omega) (by decide) (fun w5 n5_w5 uu5 => ?_)
          have m0_w5 := (uu5 77 (by omega)).trans m0_w2
          have m1_w5 := (uu5 78 (by omega)).trans m1_w2
          have m3_w5 := (uu5 80 (by omega)).trans m3_w2
          have m4_w5 := (uu5 81 (by omega)).trans m4_w2
          have m5_w5 := (uu5 82 (by omega)).trans m5_w2
          have m6_w5 := (uu5 83 (by omega)).trans m6_w2
          have m7_w5 := (uu5 84 (by omega)).trans m7_w2
          have m8_w5 := (uu5 85 (by omega)).trans m8_w2
          have m9_w5 := (uu5 86 (by omega)).trans m9_w2
          have m10_w5 := (uu5 87 (by omega)).trans m10_w2
          have fr_w5 : ∀ j, (j < 77 ∨ 88 ≤ j) → w5 j = w j := fun j hj => (uu5 j (by omega)).trans (fr_w2 j hj)
          refine r_iinc X eX6_image_39 rfl (nI (i + 1)) (inc_nI _) (L2 := [some (.ref (b + 77)), some (.int (nI nk)), some (.int (nI (i + 1)))]) rfl ?_
          refine r_goto (tgt := 14) X eX6_image_42 (by decide) ?_
          exact ih2 (i + 1) (upd A ((131 * nk) + i) (st i)) w5 (by omega) (fun j hj => cp_st hz hj) (fun j hj => by rw [upd_ne (by omega)]; exact ho j hj) m0_w5 m1_w5 n5_w5 m3_w5 m4_w5 m5_w5 m6_w5 m7_w5 m8_w5 m9_w5 m10_w5 fr_w5 (by omega)
    exact lp2 _ 0 ims w (by omega) (fun j hj => absurd hj (by omega)) (fun j hj => rfl) m0 m1 m2 m3 m4 m5 m6 m7 m8 m9 m10 fr_w (Nat.lt_succ_self _)
  ·
    refine r_bipush X eX6_image_9 ((-2 : Int32)) (by decide) ?_
    exact ret _ _ _ _ _ eX6_image_11 (by rw [show fImage lw P n sg im kf k = (-2, (lw, P, n, sg, im, kf)) from if_neg (by omega)]; exact ⟨rfl, ⟨_, _, _, _, _, _, _, _, _, _, _, _, _, _, _, _, ⟨m0, m1, m2, m3, m4, m5, m6, m7, m8, m9, m10⟩, hst, himg, hn8⟩, fr_w⟩)
set_option maxHeartbeats 4000000 in
set_option maxRecDepth 100000 in
theorem c_X6_restore (l : Launch) (G : Gs) (b N : Nat) (w : Wd) (hN : 88 ≤ N) (lw : Nat) (P : Pc) (n : Nat) (sg : Nat → Int32) (im : Nat → Nat × Pc) (kf : Nat → Int32) (hs : sysM G b w (lw, P, n, sg, im, kf)) (hkb : ∀ i, i < 2 → kf i = 0 ∨ kf i = 1) (k : Int32) : CI l yX6_restore cX6_restore 3 (some .int) 1 G b N w [.ref (b + 77), .int k] (fun r w2 => r = (fRestore lw P n sg im kf k).1 ∧ sysM G b w2 (fRestore lw P n sg im kf k).2 ∧ ∀ j, (j < 77 ∨ 88 ≤ j) → w2 j = w j) := by
  obtain ⟨wd, hg, sc, kc, bc, bo, ag, bk, st, ims, gr, mk, rs, se, tt, tc, ⟨m0, m1, m2, m3, m4, m5, m6, m7, m8, m9, m10⟩, hst, himg, hn8⟩ := id hs
  dsimp only at m0 m3 m4 hst himg hn8
  obtain ⟨s1, e1, e2, e3, hP, hlw⟩ := id hst
  obtain ⟨o1, o2, o3, o4⟩ := id hP
  refine CI_of (L0 := [some (.ref (b + 77)), some (.int k), none]) (by decide) rfl (by simp [Value.category]) rfl (Nat.le_of_ble_eq_true rfl) rfl (fun κ X ret => ?_)
  have fr_w : ∀ j, (j < 77 ∨ 88 ≤ j) → w j = w j := fun _ _ => rfl
  refine r_iload_n X eX6_restore_0 rfl ?_
  refine r_iconst X eX6_restore_1 (nI 0) (by decide) ?_
  refine r_iconst X eX6_restore_2 (nI 1) (by decide) ?_
  refine cp_X6_41 X eX6_restore_3 (c_X6_in _ G b N w (k) (nI 0) (nI 1) (k.toInt) (0) (1) rfl (nI_toInt (by omega)) (nI_toInt (by omega))) (by decide) rfl (Nat.le_of_ble_eq_true rfl) ?_
  refine r_ifne_b (tgt := 12) X eX6_restore_6 (by decide) (fun c_1 => ?_) (fun c_1 => ?_)
  ·
    obtain ⟨nk, hnk, rfl, hi_nk⟩ := i2n (x := k) (by omega)
    refine r_aload_n X eX6_restore_12 rfl ?_
    refine gf_X6_16 X eX6_restore_13 (by omega) m0 ?_
    refine r_iload_n X eX6_restore_16 rfl ?_
    refine r_zald X eX6_restore_17 (by omega) m3 (by omega) (by decide) ?_
    refine r_if_ne (tgt := 24) X eX6_restore_18 (by decide) rfl (fun c_2 => ?_) (fun c_2 => ?_)
    ·
      refine r_iconst X eX6_restore_24 (nI 0) (by decide) ?_
      refine r_istore_n X eX6_restore_25 (Nat.le_of_ble_eq_true rfl) (L2 := [some (.ref (b + 77)), some (.int (nI nk)), some (.int (nI 0))]) rfl ?_
      have lp3 : ∀ (fu : Nat) (i : Nat) (A : Nat → Int32) (w3 : Wd), (i ≤ 131) → (∀ j, j < i → A j = ims (131 * nk + j)) → (w3 77 = .inr (6, [.ref (b + 78), .ref (b + 79), .ref (b + 80), .ref (b + 81), .int (nI n), .ref (b + 82), .ref (b + 83), .int (nI wd), .int (nI hg), .ref (b + 84), .ref (b + 85), .int sc, .int kc, .int bc, .int bo, .int ag, .int bk, .ref (b + 86), .ref (b + 87)])) → (w3 78 = aI G 131 A) → (w3 79 = aI G 262 ims) → (w3 80 = aZ G 2 kf) → (w3 81 = aI G 80 sg) → (w3 82 = aI G 64 gr) → (w3 83 = aI G 64 mk) → (w3 84 = aI G 64 rs) → (w3 85 = aI G 8 se) → (w3 86 = aI G 6272 tt) → (w3 87 = aI G 49 tc) → (∀ j, (j < 77 ∨ 88 ≤ j) → w3 j = w j) → 131 - i < fu → V κ G b (N, 0, 0) w3 26 [some (.ref (b + 77)), some (.int (nI nk)), some (.int (nI i))] [] := by
        intro fu
        induction fu with
        | zero => intro i A w3 hi hz m0_w3 m1_w3 m2_w3 m3_w3 m4_w3 m5_w3 m6_w3 m7_w3 m8_w3 m9_w3 m10_w3 fr_w3 hm; exact absurd hm (Nat.not_lt_zero _)
        | succ fu ih3 =>
          intro i A w3 hi hz m0_w3 m1_w3 m2_w3 m3_w3 m4_w3 m5_w3 m6_w3 m7_w3 m8_w3 m9_w3 m10_w3 fr_w3 hm
          refine r_iload_n X eX6_restore_26 rfl ?_
          refine r_sipush X eX6_restore_27 (nI 131) (by decide) ?_
          refine r_icmp_ge (tgt := 57) X eX6_restore_30 (by decide) (nI_toInt (by omega)) (nI_toInt (by omega)) (fun c_4 => ?_) (fun c_4 => ?_)
          ·
            refine r_iconst X eX6_restore_57 (nI 1) (by decide) ?_
            exact ret _ _ _ _ _ eX6_restore_58 (by rw [show fRestore lw P n sg im kf (nI nk) = (1, ((im nk).1, (im nk).2, n, sg, im, kf)) from by rw [fRestore, if_pos (by omega), tn_nI hnk, if_neg (fun q => c_2 (congrArg Int32.toInt q))]]; exact ⟨rfl, ⟨_, _, _, _, _, _, _, _, _, _, _, _, _, _, _, _, ⟨m0_w3, m1_w3, m2_w3, m3_w3, m4_w3, m5_w3, m6_w3, m7_w3, m8_w3, m9_w3, m10_w3⟩, stI_cp0 (himg nk (by omega) (fun q => c_2 (congrArg Int32.toInt q))) (fun j hj => hz j (by omega)), himg, hn8⟩, fr_w3⟩)
          ·
            refine r_aload_n X eX6_restore_33 rfl ?_
            refine gf_X6_7 X eX6_restore_34 (by omega) m0_w3 ?_
            refine r_iload_n X eX6_restore_37 rfl ?_
            refine r_aload_n X eX6_restore_38 rfl ?_
            refine gf_X6_13 X eX6_restore_39 (by omega) m0_w3 ?_
            refine r_sipush X eX6_restore_42 (nI 131) (by decide) ?_
            refine r_iload_n X eX6_restore_45 rfl ?_
            refine r_imul X eX6_restore_46 (nI (131 * nk)) (pk_mul _ _) ?_
            refine r_iload_n X eX6_restore_47 rfl ?_
            refine r_iadd X eX6_restore_48 (nI ((131 * nk) + i)) (addN (by omega)) ?_
            refine r_iald X eX6_restore_49 (by omega) m2_w3 (by omega) (by decide) ?_
            refine r_iast X eX6_restore_50 (by omega) m1_w3 (by omega) (by decide) (fun w5 n5_w5 uu5 => ?_)
            have m0_w5 := (uu5 77 (by omega)).trans m0_w3
            have m2_w5 := (uu5 79 (by omega)).trans m2_w3
            have m3_w5 := (uu5 80 (by omega)).trans m3_w3
            have m4_w5 := (uu5 81 (by omega)).trans m4_w3
            have m5_w5 := (uu5 82 (by omega)).trans m5_w3
            have m6_w5 := (uu5 83 (by omega)).trans m6_w3
            have m7_w5 := (uu5 84 (by omega)).trans m7_w3
            have m8_w5 := (uu5 85 (by omega)).trans m8_w3
            have m9_w5 := (uu5 86 (by omega)).trans m9_w3
            have m10_w5 := (uu5 87 (by omega)).trans m10_w3
            have fr_w5 : ∀ j, (j < 77 ∨ 88 ≤ j) → w5 j = w j := fun j hj => (uu5 j (by omega)).trans (fr_w3 j hj)
            refine r_iinc X eX6_restore_51 rfl (nI (i + 1)) (inc_nI _) (L2 := [some (.ref (b + 77)), some (.int (nI nk)), some (.int (nI (i + 1)))]) rfl ?_
            refine r_goto (tgt := 26) X eX6_restore_54 (by decide) ?_
            exact ih3 (i + 1) (upd A i (ims ((131 * nk) + i))) w5 (by omega) (fun j hj => by have hh := cp_st (A := A) (B := fun j => ims (131 * nk + j)) (k := 0) (i := i) (j := j) (fun q hq => by rw [Nat.zero_add]; exact hz q hq) hj; rw [Nat.zero_add, Nat.zero_add] at hh; exact hh) m0_w5 n5_w5 m2_w5 m3_w5 m4_w5 m5_w5 m6_w5 m7_w5 m8_w5 m9_w5 m10_w5 fr_w5 (by omega)
      exact lp3 _ 0 st w (by omega) (fun j hj => absurd hj (by omega)) m0 m1 m2 m3 m4 m5 m6 m7 m8 m9 m10 fr_w (Nat.lt_succ_self _)
    ·
      refine r_bipush X eX6_restore_21 ((-3 : Int32)) (by decide) ?_
      exact ret _ _ _ _ _ eX6_restore_23 (by rw [show fRestore lw P n sg im kf (nI nk) = (-3, (lw, P, n, sg, im, kf)) from by rw [fRestore, if_pos (by omega), tn_nI hnk, if_pos (Int32.toInt_inj.mp c_2)]]; exact ⟨rfl, ⟨_, _, _, _, _, _, _, _, _, _, _, _, _, _, _, _, ⟨m0, m1, m2, m3, m4, m5, m6, m7, m8, m9, m10⟩, hst, himg, hn8⟩, fr_w⟩)
  ·
    refine r_bipush X eX6_restore_9 ((-2 : Int32)) (by decide) ?_
    exact ret _ _ _ _ _ eX6_restore_11 (by rw [show fRestore lw P n sg im kf k = (-2, (lw, P, n, sg, im, kf)) from if_neg (by omega)]; exact ⟨rfl, ⟨_, _, _, _, _, _, _, _, _, _, _, _, _, _, _, _, ⟨m0, m1, m2, m3, m4, m5, m6, m7, m8, m9, m10⟩, hst, himg, hn8⟩, fr_w⟩)
set_option maxHeartbeats 4000000 in
set_option maxRecDepth 100000 in
theorem c_X6_dotsWith (l : Launch) (G : Gs) (b N : Nat) (w : Wd) (hN : 88 ≤ N) (n wd hg : Nat) (sc kc bc bo ag bk : Int32) (st ims kf sg gr mk rs se tt tc : Nat → Int32) (hm : mW G b w n wd hg sc kc bc bo ag bk st ims kf sg gr mk rs se tt tc) (v : Int32) : CI l yX6_dotsWith cX6_dotsWith 4 (some .int) 0 G b N w [.ref (b + 77), .int v] (fun r w2 => r = sm (fun i => if st (64 + i) = v then 1 else 0) 64 ∧ w2 = w) := by
  obtain ⟨m0, m1, m2, m3, m4, m5, m6, m7, m8, m9, m10⟩ := hm
  refine CI_of (L0 := [some (.ref (b + 77)), some (.int v), none, none]) (by decide) rfl (by simp [Value.category]) rfl (Nat.le_of_ble_eq_true rfl) rfl (fun κ X ret => ?_)
  refine r_iconst X eX6_dotsWith_0 ((0 : Int32)) (by decide) ?_
  refine r_istore_n X eX6_dotsWith_1 (Nat.le_of_ble_eq_true rfl) (L2 := [some (.ref (b + 77)), some (.int v), some (.int ((0 : Int32))), none]) rfl ?_
  refine r_iconst X eX6_dotsWith_2 (nI 0) (by decide) ?_
  refine r_istore_n X eX6_dotsWith_3 (Nat.le_of_ble_eq_true rfl) (L2 := [some (.ref (b + 77)), some (.int v), some (.int ((0 : Int32))), some (.int (nI 0))]) rfl ?_
  have lp1 : ∀ (fu : Nat) (i : Nat) (c : Int32), (i ≤ 64) → (c = sm (fun i => if st (64 + i) = v then 1 else 0) i) → 64 - i < fu → V κ G b (N, 0, 0) w 4 [some (.ref (b + 77)), some (.int v), some (.int c), some (.int (nI i))] [] := by
    intro fu
    induction fu with
    | zero => intro i c hi hc hm; exact absurd hm (Nat.not_lt_zero _)
    | succ fu ih1 =>
      intro i c hi hc hm
      refine r_iload_n X eX6_dotsWith_4 rfl ?_
      refine r_bipush X eX6_dotsWith_5 (nI 64) (by decide) ?_
      refine r_icmp_ge (tgt := 37) X eX6_dotsWith_7 (by decide) (nI_toInt (by omega)) (nI_toInt (by omega)) (fun c_2 => ?_) (fun c_2 => ?_)
      ·
        refine r_iload_n X eX6_dotsWith_37 rfl ?_
        exact ret _ _ _ _ _ eX6_dotsWith_38 (⟨hc.trans (sm_eq (by omega)), rfl⟩)
      ·
        refine r_iload_n X eX6_dotsWith_10 rfl ?_
        refine r_aload_n X eX6_dotsWith_11 rfl ?_
        refine gf_X6_7 X eX6_dotsWith_12 (by omega) m0 ?_
        refine r_bipush X eX6_dotsWith_15 (nI 64) (by decide) ?_
        refine r_iload_n X eX6_dotsWith_17 rfl ?_
        refine r_iadd X eX6_dotsWith_18 (nI (64 + i)) (addN rfl) ?_
        refine r_iald X eX6_dotsWith_19 (by omega) m1 (by omega) (by decide) ?_
        refine r_iload_n X eX6_dotsWith_20 rfl ?_
        refine r_icmp_ne (tgt := 28) X eX6_dotsWith_21 (by decide) rfl rfl (fun c_3 => ?_) (fun c_3 => ?_)
        ·
          refine r_iconst X eX6_dotsWith_28 (nI 0) (by decide) ?_
          refine r_iadd X eX6_dotsWith_29 (c + (nI 0)) rfl ?_
          refine r_istore_n X eX6_dotsWith_30 (Nat.le_of_ble_eq_true rfl) (L2 := [some (.ref (b + 77)), some (.int v), some (.int (c + (nI 0))), some (.int (nI i))]) rfl ?_
          refine r_iinc X eX6_dotsWith_31 rfl (nI (i + 1)) (inc_nI _) (L2 := [some (.ref (b + 77)), some (.int v), some (.int (c + (nI 0))), some (.int (nI (i + 1)))]) rfl ?_
          refine r_goto (tgt := 4) X eX6_dotsWith_34 (by decide) ?_
          exact ih1 (i + 1) (c + (nI 0))  (by omega) (by rw [hc, sm, if_neg (fun q => c_3 (congrArg Int32.toInt q))]; rfl)  (by omega)
        ·
          refine r_iconst X eX6_dotsWith_24 (nI 1) (by decide) ?_
          refine r_goto (tgt := 29) X eX6_dotsWith_25 (by decide) ?_
          refine r_iadd X eX6_dotsWith_29 (c + (nI 1)) rfl ?_
          refine r_istore_n X eX6_dotsWith_30 (Nat.le_of_ble_eq_true rfl) (L2 := [some (.ref (b + 77)), some (.int v), some (.int (c + (nI 1))), some (.int (nI i))]) rfl ?_
          refine r_iinc X eX6_dotsWith_31 rfl (nI (i + 1)) (inc_nI _) (L2 := [some (.ref (b + 77)), some (.int v), some (.int (c + (nI 1))), some (.int (nI (i + 1)))]) rfl ?_
          refine r_goto (tgt := 4) X eX6_dotsWith_34 (by decide) ?_
          exact ih1 (i + 1) (c + (nI 1))  (by omega) (by rw [hc, sm, if_pos (Int32.toInt_inj.mp c_3)]; rfl)  (by omega)
  exact lp1 _ 0 0  (by omega) rfl  (Nat.lt_succ_self _)
set_option maxHeartbeats 4000000 in
set_option maxRecDepth 100000 in
theorem c_X6_greys (l : Launch) (G : Gs) (b N : Nat) (w : Wd) (hN : 88 ≤ N) (n wd hg : Nat) (sc kc bc bo ag bk : Int32) (st ims kf sg gr mk rs se tt tc : Nat → Int32) (hm : mW G b w n wd hg sc kc bc bo ag bk st ims kf sg gr mk rs se tt tc) : CI l yX6_greys cX6_greys 3 (some .int) 0 G b N w [.ref (b + 77)] (fun r w2 => r = sm (fun i => st i) 64 ∧ w2 = w) := by
  obtain ⟨m0, m1, m2, m3, m4, m5, m6, m7, m8, m9, m10⟩ := hm
  refine CI_of (L0 := [some (.ref (b + 77)), none, none]) (by decide) rfl (by simp [Value.category]) rfl (Nat.le_of_ble_eq_true rfl) rfl (fun κ X ret => ?_)
  refine r_iconst X eX6_greys_0 ((0 : Int32)) (by decide) ?_
  refine r_istore_n X eX6_greys_1 (Nat.le_of_ble_eq_true rfl) (L2 := [some (.ref (b + 77)), some (.int ((0 : Int32))), none]) rfl ?_
  refine r_iconst X eX6_greys_2 (nI 0) (by decide) ?_
  refine r_istore_n X eX6_greys_3 (Nat.le_of_ble_eq_true rfl) (L2 := [some (.ref (b + 77)), some (.int ((0 : Int32))), some (.int (nI 0))]) rfl ?_
  have lp1 : ∀ (fu : Nat) (i : Nat) (c : Int32), (i ≤ 64) → (c = sm (fun i => st i) i) → 64 - i < fu → V κ G b (N, 0, 0) w 4 [some (.ref (b + 77)), some (.int c), some (.int (nI i))] [] := by
    intro fu
    induction fu with
    | zero => intro i c hi hc hm; exact absurd hm (Nat.not_lt_zero _)
    | succ fu ih1 =>
      intro i c hi hc hm
      refine r_iload_n X eX6_greys_4 rfl ?_
      refine r_bipush X eX6_greys_5 (nI 64) (by decide) ?_
      refine r_icmp_ge (tgt := 27) X eX6_greys_7 (by decide) (nI_toInt (by omega)) (nI_toInt (by omega)) (fun c_2 => ?_) (fun c_2 => ?_)
      ·
        refine r_iload_n X eX6_greys_27 rfl ?_
        exact ret _ _ _ _ _ eX6_greys_28 (⟨hc.trans (sm_eq (by omega)), rfl⟩)
      ·
        refine r_iload_n X eX6_greys_10 rfl ?_
        refine r_aload_n X eX6_greys_11 rfl ?_
        refine gf_X6_7 X eX6_greys_12 (by omega) m0 ?_
        refine r_iconst X eX6_greys_15 (nI 0) (by decide) ?_
        refine r_iload_n X eX6_greys_16 rfl ?_
        refine r_iadd X eX6_greys_17 (nI i) (addN (by omega)) ?_
        refine r_iald X eX6_greys_18 (by omega) m1 (by omega) (by decide) ?_
        refine r_iadd X eX6_greys_19 (c + (st i)) rfl ?_
        refine r_istore_n X eX6_greys_20 (Nat.le_of_ble_eq_true rfl) (L2 := [some (.ref (b + 77)), some (.int (c + (st i))), some (.int (nI i))]) rfl ?_
        refine r_iinc X eX6_greys_21 rfl (nI (i + 1)) (inc_nI _) (L2 := [some (.ref (b + 77)), some (.int (c + (st i))), some (.int (nI (i + 1)))]) rfl ?_
        refine r_goto (tgt := 4) X eX6_greys_24 (by decide) ?_
        exact ih1 (i + 1) (c + (st i))  (by omega) (by rw [hc, sm])  (by omega)
  exact lp1 _ 0 0  (by omega) rfl  (Nat.lt_succ_self _)
set_option maxHeartbeats 4000000 in
set_option maxRecDepth 100000 in
theorem c_X6_count (l : Launch) (G : Gs) (b N : Nat) (w : Wd) (hN : 88 ≤ N) (lw : Nat) (P : Pc) (n : Nat) (sg : Nat → Int32) (im : Nat → Nat × Pc) (kf : Nat → Int32) (hs : sysM G b w (lw, P, n, sg, im, kf)) (hkb : ∀ i, i < 2 → kf i = 0 ∨ kf i = 1) (what : Int32) : CI l yX6_count cX6_count 2 (some .int) 1 G b N w [.ref (b + 77), .int what] (fun r w2 => r = aCount lw P n kf what ∧ sysM G b w2 (lw, P, n, sg, im, kf) ∧ ∀ j, (j < 77 ∨ 88 ≤ j) → w2 j = w j) := by
  obtain ⟨wd, hg, sc, kc, bc, bo, ag, bk, st, ims, gr, mk, rs, se, tt, tc, ⟨m0, m1, m2, m3, m4, m5, m6, m7, m8, m9, m10⟩, hst, himg, hn8⟩ := id hs
  dsimp only at m0 m3 m4 hst himg hn8
  obtain ⟨s1, e1, e2, e3, hP, hlw⟩ := id hst
  obtain ⟨o1, o2, o3, o4⟩ := id hP
  refine CI_of (L0 := [some (.ref (b + 77)), some (.int what)]) (by decide) rfl (by simp [Value.category]) rfl (Nat.le_of_ble_eq_true rfl) rfl (fun κ X ret => ?_)
  have fr_w : ∀ j, (j < 77 ∨ 88 ≤ j) → w j = w j := fun _ _ => rfl
  refine r_iload_n X eX6_count_0 rfl ?_
  by_cases s_1 : what.toInt = 0
  ·
    refine r_tabIn (tgt := 48) X eX6_count_1 0 s_1 (by decide) (by decide) rfl (by decide) ?_
    refine r_aload_n X eX6_count_48 rfl ?_
    refine gf_X6_7 X eX6_count_49 (by omega) m0 ?_
    refine r_sipush X eX6_count_52 (nI 128) (by decide) ?_
    refine r_iald X eX6_count_55 (by omega) m1 (by omega) (by decide) ?_
    refine r_top (y := nI P.1) e1 ?_
    exact ret _ _ _ _ _ eX6_count_56 (⟨by rw [aCount, if_pos (by omega)], ⟨_, _, _, _, _, _, _, _, _, _, _, _, _, _, _, _, ⟨m0, m1, m2, m3, m4, m5, m6, m7, m8, m9, m10⟩, hst, himg, hn8⟩, fr_w⟩)
  by_cases s_2 : what.toInt = 1
  ·
    refine r_tabIn (tgt := 57) X eX6_count_1 1 s_2 (by decide) (by decide) rfl (by decide) ?_
    refine r_aload_n X eX6_count_57 rfl ?_
    refine gf_X6_7 X eX6_count_58 (by omega) m0 ?_
    refine r_sipush X eX6_count_61 (nI 129) (by decide) ?_
    refine r_iald X eX6_count_64 (by omega) m1 (by omega) (by decide) ?_
    refine r_top (y := nI P.2.1) e2 ?_
    exact ret _ _ _ _ _ eX6_count_65 (⟨by rw [aCount, if_neg (by omega), if_pos (by omega)], ⟨_, _, _, _, _, _, _, _, _, _, _, _, _, _, _, _, ⟨m0, m1, m2, m3, m4, m5, m6, m7, m8, m9, m10⟩, hst, himg, hn8⟩, fr_w⟩)
  by_cases s_3 : what.toInt = 2
  ·
    refine r_tabIn (tgt := 66) X eX6_count_1 2 s_3 (by decide) (by decide) rfl (by decide) ?_
    refine r_aload_n X eX6_count_66 rfl ?_
    refine cp_X6_199 X eX6_count_67 (c_X6_greys _ G b N w hN n wd hg sc kc bc bo ag bk st ims kf sg gr mk rs se tt tc ⟨m0, m1, m2, m3, m4, m5, m6, m7, m8, m9, m10⟩) (by decide) (by omega) m0 rfl (Nat.le_of_ble_eq_true rfl) ?_
    refine r_top (y := sumG P) (sum_g hst) ?_
    exact ret _ _ _ _ _ eX6_count_70 (⟨by rw [aCount, if_neg (by omega), if_neg (by omega), if_pos (by omega)], ⟨_, _, _, _, _, _, _, _, _, _, _, _, _, _, _, _, ⟨m0, m1, m2, m3, m4, m5, m6, m7, m8, m9, m10⟩, hst, himg, hn8⟩, fr_w⟩)
  by_cases s_4 : what.toInt = 3
  ·
    refine r_tabIn (tgt := 71) X eX6_count_1 3 s_4 (by decide) (by decide) rfl (by decide) ?_
    refine r_aload_n X eX6_count_71 rfl ?_
    refine r_iconst X eX6_count_72 ((1 : Int32)) (by decide) ?_
    refine cp_X6_202 X eX6_count_73 (c_X6_dotsWith _ G b N w hN n wd hg sc kc bc bo ag bk st ims kf sg gr mk rs se tt tc ⟨m0, m1, m2, m3, m4, m5, m6, m7, m8, m9, m10⟩ 1) (by decide) (by omega) m0 rfl (Nat.le_of_ble_eq_true rfl) ?_
    refine r_top (y := cntM P 1) (sum_m hst (by decide)) ?_
    exact ret _ _ _ _ _ eX6_count_76 (⟨by rw [aCount, if_neg (by omega), if_neg (by omega), if_neg (by omega), if_pos (by omega)], ⟨_, _, _, _, _, _, _, _, _, _, _, _, _, _, _, _, ⟨m0, m1, m2, m3, m4, m5, m6, m7, m8, m9, m10⟩, hst, himg, hn8⟩, fr_w⟩)
  by_cases s_5 : what.toInt = 4
  ·
    refine r_tabIn (tgt := 77) X eX6_count_1 4 s_5 (by decide) (by decide) rfl (by decide) ?_
    refine r_aload_n X eX6_count_77 rfl ?_
    refine r_iconst X eX6_count_78 ((2 : Int32)) (by decide) ?_
    refine cp_X6_202 X eX6_count_79 (c_X6_dotsWith _ G b N w hN n wd hg sc kc bc bo ag bk st ims kf sg gr mk rs se tt tc ⟨m0, m1, m2, m3, m4, m5, m6, m7, m8, m9, m10⟩ 2) (by decide) (by omega) m0 rfl (Nat.le_of_ble_eq_true rfl) ?_
    refine r_top (y := cntM P 2) (sum_m hst (by decide)) ?_
    exact ret _ _ _ _ _ eX6_count_82 (⟨by rw [aCount, if_neg (by omega), if_neg (by omega), if_neg (by omega), if_neg (by omega), if_pos (by omega)], ⟨_, _, _, _, _, _, _, _, _, _, _, _, _, _, _, _, ⟨m0, m1, m2, m3, m4, m5, m6, m7, m8, m9, m10⟩, hst, himg, hn8⟩, fr_w⟩)
  by_cases s_6 : what.toInt = 5
  ·
    refine r_tabIn (tgt := 83) X eX6_count_1 5 s_6 (by decide) (by decide) rfl (by decide) ?_
    refine r_aload_n X eX6_count_83 rfl ?_
    refine gf_X6_7 X eX6_count_84 (by omega) m0 ?_
    refine r_sipush X eX6_count_87 (nI 130) (by decide) ?_
    refine r_iald X eX6_count_90 (by omega) m1 (by omega) (by decide) ?_
    refine r_top (y := nI lw) e3 ?_
    exact ret _ _ _ _ _ eX6_count_91 (⟨by rw [aCount, if_neg (by omega), if_neg (by omega), if_neg (by omega), if_neg (by omega), if_neg (by omega), if_pos (by omega)], ⟨_, _, _, _, _, _, _, _, _, _, _, _, _, _, _, _, ⟨m0, m1, m2, m3, m4, m5, m6, m7, m8, m9, m10⟩, hst, himg, hn8⟩, fr_w⟩)
  by_cases s_7 : what.toInt = 6
  ·
    refine r_tabIn (tgt := 92) X eX6_count_1 6 s_7 (by decide) (by decide) rfl (by decide) ?_
    refine r_aload_n X eX6_count_92 rfl ?_
    refine gf_X6_127 X eX6_count_93 (by omega) m0 ?_
    exact ret _ _ _ _ _ eX6_count_96 (⟨by rw [aCount, if_neg (by omega), if_neg (by omega), if_neg (by omega), if_neg (by omega), if_neg (by omega), if_neg (by omega), if_pos (by omega)], ⟨_, _, _, _, _, _, _, _, _, _, _, _, _, _, _, _, ⟨m0, m1, m2, m3, m4, m5, m6, m7, m8, m9, m10⟩, hst, himg, hn8⟩, fr_w⟩)
  by_cases s_8 : what.toInt = 7
  ·
    refine r_tabIn (tgt := 97) X eX6_count_1 7 s_8 (by decide) (by decide) rfl (by decide) ?_
    refine r_aload_n X eX6_count_97 rfl ?_
    refine gf_X6_16 X eX6_count_98 (by omega) m0 ?_
    refine r_iconst X eX6_count_101 (nI 0) (by decide) ?_
    refine r_zald X eX6_count_102 (by omega) m3 (by omega) (by decide) ?_
    refine r_if_eq (tgt := 110) X eX6_count_103 (by decide) rfl (fun c_9 => ?_) (fun c_9 => ?_)
    ·
      refine r_iconst X eX6_count_110 (nI 0) (by decide) ?_
      refine r_aload_n X eX6_count_111 rfl ?_
      refine gf_X6_16 X eX6_count_112 (by omega) m0 ?_
      refine r_iconst X eX6_count_115 (nI 1) (by decide) ?_
      refine r_zald X eX6_count_116 (by omega) m3 (by omega) (by decide) ?_
      refine r_if_eq (tgt := 124) X eX6_count_117 (by decide) rfl (fun c_10 => ?_) (fun c_10 => ?_)
      ·
        refine r_iconst X eX6_count_124 (nI 0) (by decide) ?_
        refine r_iadd X eX6_count_125 (nI 0) (addN (by omega)) ?_
        exact ret _ _ _ _ _ eX6_count_126 (⟨by rw [aCount, if_neg (by omega), if_neg (by omega), if_neg (by omega), if_neg (by omega), if_neg (by omega), if_neg (by omega), if_neg (by omega), if_pos (by omega), kpS, if_pos (Int32.toInt_inj.mp c_9), if_pos (Int32.toInt_inj.mp c_10)]; decide, ⟨_, _, _, _, _, _, _, _, _, _, _, _, _, _, _, _, ⟨m0, m1, m2, m3, m4, m5, m6, m7, m8, m9, m10⟩, hst, himg, hn8⟩, fr_w⟩)
      ·
        refine r_iconst X eX6_count_120 (nI 2) (by decide) ?_
        refine r_goto (tgt := 125) X eX6_count_121 (by decide) ?_
        refine r_iadd X eX6_count_125 (nI 2) (addN (by omega)) ?_
        exact ret _ _ _ _ _ eX6_count_126 (⟨by rw [aCount, if_neg (by omega), if_neg (by omega), if_neg (by omega), if_neg (by omega), if_neg (by omega), if_neg (by omega), if_neg (by omega), if_pos (by omega), kpS, if_pos (Int32.toInt_inj.mp c_9), if_neg (fun q => c_10 (congrArg Int32.toInt q))]; decide, ⟨_, _, _, _, _, _, _, _, _, _, _, _, _, _, _, _, ⟨m0, m1, m2, m3, m4, m5, m6, m7, m8, m9, m10⟩, hst, himg, hn8⟩, fr_w⟩)
    ·
      refine r_iconst X eX6_count_106 (nI 1) (by decide) ?_
      refine r_goto (tgt := 111) X eX6_count_107 (by decide) ?_
      refine r_aload_n X eX6_count_111 rfl ?_
      refine gf_X6_16 X eX6_count_112 (by omega) m0 ?_
      refine r_iconst X eX6_count_115 (nI 1) (by decide) ?_
      refine r_zald X eX6_count_116 (by omega) m3 (by omega) (by decide) ?_
      refine r_if_eq (tgt := 124) X eX6_count_117 (by decide) rfl (fun c_11 => ?_) (fun c_11 => ?_)
      ·
        refine r_iconst X eX6_count_124 (nI 0) (by decide) ?_
        refine r_iadd X eX6_count_125 (nI 1) (addN (by omega)) ?_
        exact ret _ _ _ _ _ eX6_count_126 (⟨by rw [aCount, if_neg (by omega), if_neg (by omega), if_neg (by omega), if_neg (by omega), if_neg (by omega), if_neg (by omega), if_neg (by omega), if_pos (by omega), kpS, if_neg (fun q => c_9 (congrArg Int32.toInt q)), if_pos (Int32.toInt_inj.mp c_11)]; decide, ⟨_, _, _, _, _, _, _, _, _, _, _, _, _, _, _, _, ⟨m0, m1, m2, m3, m4, m5, m6, m7, m8, m9, m10⟩, hst, himg, hn8⟩, fr_w⟩)
      ·
        refine r_iconst X eX6_count_120 (nI 2) (by decide) ?_
        refine r_goto (tgt := 125) X eX6_count_121 (by decide) ?_
        refine r_iadd X eX6_count_125 (nI 3) (addN (by omega)) ?_
        exact ret _ _ _ _ _ eX6_count_126 (⟨by rw [aCount, if_neg (by omega), if_neg (by omega), if_neg (by omega), if_neg (by omega), if_neg (by omega), if_neg (by omega), if_neg (by omega), if_pos (by omega), kpS, if_neg (fun q => c_9 (congrArg Int32.toInt q)), if_neg (fun q => c_11 (congrArg Int32.toInt q))]; decide, ⟨_, _, _, _, _, _, _, _, _, _, _, _, _, _, _, _, ⟨m0, m1, m2, m3, m4, m5, m6, m7, m8, m9, m10⟩, hst, himg, hn8⟩, fr_w⟩)
  refine r_tabOut (tgt := 127) X eX6_count_1 (by omega) (by decide) ?_
  refine r_bipush X eX6_count_127 ((-2 : Int32)) (by decide) ?_
  exact ret _ _ _ _ _ eX6_count_129 (⟨by rw [aCount, if_neg (by omega), if_neg (by omega), if_neg (by omega), if_neg (by omega), if_neg (by omega), if_neg (by omega), if_neg (by omega), if_neg (by omega)], ⟨_, _, _, _, _, _, _, _, _, _, _, _, _, _, _, _, ⟨m0, m1, m2, m3, m4, m5, m6, m7, m8, m9, m10⟩, hst, himg, hn8⟩, fr_w⟩)
