def LayI (wd hg : Nat) (U : Nat → Nat → Int32) (ga : Nat → Int32) (y x : Nat) (A : Nat → Int32) : Prop := ∀ y2 x2, y2 < hg → x2 < wd → vg 0 A y2 x2 = if y2 < y ∨ (y2 = y ∧ x2 < x) then U y2 x2 else vg 0 ga y2 x2
theorem LayI_0 {wd hg : Nat} {U : Nat → Nat → Int32} {ga : Nat → Int32} : LayI wd hg U ga 0 0 ga := fun y x _ _ => by rw [if_neg (by omega)]
theorem LayI_out {wd hg y x : Nat} {U : Nat → Nat → Int32} {ga A : Nat → Int32} (h : wd ≤ x) (H : LayI wd hg U ga y x A) : LayI wd hg U ga (y + 1) 0 A := fun y2 x2 h1 h2 => by
  rw [H y2 x2 h1 h2]
  by_cases c : y2 < y ∨ (y2 = y ∧ x2 < x)
  · rw [if_pos c, if_pos (by omega)]
  · rw [if_neg c, if_neg (by omega)]
theorem LayI_st {wd hg y x : Nat} {U : Nat → Nat → Int32} {ga A : Nat → Int32} (hw : wd ≤ 8) (hh : hg ≤ 8) (hx : x < wd) (hy : y < hg) (H : LayI wd hg U ga y x A) : LayI wd hg U ga y (x + 1) (upd A (ix 0 y x) (U y x)) := fun y2 x2 h1 h2 => by
  by_cases e : y2 = y ∧ x2 = x
  · obtain ⟨rfl, rfl⟩ := e
    rw [vg, upd_self, if_pos (by omega)]
  · rw [vg, upd_ne (ix_ne (by omega) (by omega) (by omega) (by omega) (by omega))]
    have := H y2 x2 h1 h2
    rw [vg] at this
    rw [this]
    by_cases c : y2 < y ∨ (y2 = y ∧ x2 < x)
    · rw [if_pos c, if_pos (by omega)]
    · rw [if_neg c, if_neg (by omega)]
theorem LayI_end {wd hg y x : Nat} {U : Nat → Nat → Int32} {ga A : Nat → Int32} (h : hg ≤ y) (H : LayI wd hg U ga y x A) : ∀ y2 x2, y2 < hg → x2 < wd → vg 0 A y2 x2 = U y2 x2 := fun y2 x2 h1 h2 => by rw [H y2 x2 h1 h2, if_pos (by omega)]
set_option maxHeartbeats 4000000 in
set_option maxRecDepth 100000 in
theorem c_X2_isFull (l : Launch) (G : Gs) (b N : Nat) (w : Wd) (kp : Nat) (hkp : kp + 2 ≤ N) (n : Nat) (sg : Nat → Int32) (hpd : isPad G b w kp n sg) : CI l yX2_isFull cX2_isFull 1 (some .boolean) 0 G b N w [.ref (b + kp)] (fun r w2 => r = bI (80 ≤ n) ∧ w2 = w) := by
  obtain ⟨d0, d1, r1⟩ := hpd
  refine CZ_of (L0 := [some (.ref (b + kp))]) (by decide) rfl (by simp [Value.category]) rfl (Nat.le_of_ble_eq_true rfl) rfl (fun κ X ret => ?_)
  refine r_aload_n X eX2_isFull_0 rfl ?_
  refine gf_X2_15 X eX2_isFull_1 (by omega) d0 ?_
  refine r_bipush X eX2_isFull_4 (nI 80) (by decide) ?_
  refine r_icmp_lt (tgt := 13) X eX2_isFull_6 (by decide) (nI_toInt (by omega)) (nI_toInt (by omega)) (fun c_1 => ?_) (fun c_1 => ?_)
  ·
    refine r_iconst X eX2_isFull_13 (nI 0) (by decide) ?_
    exact ret _ _ _ _ _ eX2_isFull_14 (Or.inl rfl) (⟨bI_f (by omega), rfl⟩)
  ·
    refine r_iconst X eX2_isFull_9 (nI 1) (by decide) ?_
    refine r_goto (tgt := 14) X eX2_isFull_10 (by decide) ?_
    exact ret _ _ _ _ _ eX2_isFull_14 (Or.inr rfl) (⟨bI_t (by omega), rfl⟩)
set_option maxHeartbeats 4000000 in
set_option maxRecDepth 100000 in
theorem c_X2_append (l : Launch) (G : Gs) (b N : Nat) (w : Wd) (kp : Nat) (hkp : kp + 2 ≤ N) (n : Nat) (sg : Nat → Int32) (hpd : isPad G b w kp n sg) (x : Int32) (hn : n < 80) : CI l yX2_append cX2_append 2 (some .int) 0 G b N w [.ref (b + kp), .int x] (fun r w2 => r = nI (n + 1) ∧ isPad G b w2 kp (n + 1) (upd sg n x) ∧ ∀ j, (j < kp ∨ kp + 2 ≤ j) → w2 j = w j) := by
  obtain ⟨d0, d1, r1⟩ := hpd
  refine CI_of (L0 := [some (.ref (b + kp)), some (.int x)]) (by decide) rfl (by simp [Value.category]) rfl (Nat.le_of_ble_eq_true rfl) rfl (fun κ X ret => ?_)
  have fr_w : ∀ j, (j < kp ∨ kp + 2 ≤ j) → w j = w j := fun _ _ => rfl
  refine r_aload_n X eX2_append_0 rfl ?_
  refine gf_X2_11 X eX2_append_1 (by omega) d0 ?_
  refine r_aload_n X eX2_append_4 rfl ?_
  refine gf_X2_15 X eX2_append_5 (by omega) d0 ?_
  refine r_iload_n X eX2_append_8 rfl ?_
  refine r_iast X eX2_append_9 (by omega) d1 (by omega) (by decide) (fun w1 n1_w1 uu1 => ?_)
  have d0_w1 := (uu1 kp (by omega)).trans d0
  have fr_w1 : ∀ j, (j < kp ∨ kp + 2 ≤ j) → w1 j = w j := fun j hj => (uu1 j (by omega)).trans (fr_w j hj)
  refine r_aload_n X eX2_append_10 rfl ?_
  refine r_dup X eX2_append_11 rfl ?_
  refine gf_X2_15 X eX2_append_12 (by omega) d0_w1 ?_
  refine r_iconst X eX2_append_15 (nI 1) (by decide) ?_
  refine r_iadd X eX2_append_16 (nI (n + 1)) (addN (by omega)) ?_
  refine pf_X2_15 X eX2_append_17 (by omega) d0_w1 (fun w2 n2_w2 uu2 => ?_)
  have n1_w2 := (uu2 (kp + 1) (by omega)).trans n1_w1
  have fr_w2 : ∀ j, (j < kp ∨ kp + 2 ≤ j) → w2 j = w j := fun j hj => (uu2 j (by omega)).trans (fr_w1 j hj)
  refine r_aload_n X eX2_append_20 rfl ?_
  refine gf_X2_15 X eX2_append_21 (by omega) n2_w2 ?_
  exact ret _ _ _ _ _ eX2_append_24 (⟨rfl, ⟨n2_w2, n1_w2, by omega⟩, fr_w2⟩)
set_option maxHeartbeats 4000000 in
set_option maxRecDepth 100000 in
theorem c_X2_clear (l : Launch) (G : Gs) (b N : Nat) (w : Wd) (kp : Nat) (hkp : kp + 2 ≤ N) (n : Nat) (sg : Nat → Int32) (hpd : isPad G b w kp n sg) : CI l yX2_clear cX2_clear 2 (some .int) 0 G b N w [.ref (b + kp)] (fun r w2 => r = nI n ∧ isPad G b w2 kp 0 sg ∧ ∀ j, (j < kp ∨ kp + 2 ≤ j) → w2 j = w j) := by
  obtain ⟨d0, d1, r1⟩ := hpd
  refine CI_of (L0 := [some (.ref (b + kp)), none]) (by decide) rfl (by simp [Value.category]) rfl (Nat.le_of_ble_eq_true rfl) rfl (fun κ X ret => ?_)
  have fr_w : ∀ j, (j < kp ∨ kp + 2 ≤ j) → w j = w j := fun _ _ => rfl
  refine r_aload_n X eX2_clear_0 rfl ?_
  refine gf_X2_15 X eX2_clear_1 (by omega) d0 ?_
  refine r_istore_n X eX2_clear_4 (Nat.le_of_ble_eq_true rfl) (L2 := [some (.ref (b + kp)), some (.int (nI n))]) rfl ?_
  refine r_aload_n X eX2_clear_5 rfl ?_
  refine r_iconst X eX2_clear_6 (nI 0) (by decide) ?_
  refine pf_X2_15 X eX2_clear_7 (by omega) d0 (fun w1 n1_w1 uu1 => ?_)
  have d1_w1 := (uu1 (kp + 1) (by omega)).trans d1
  have fr_w1 : ∀ j, (j < kp ∨ kp + 2 ≤ j) → w1 j = w j := fun j hj => (uu1 j (by omega)).trans (fr_w j hj)
  refine r_iload_n X eX2_clear_10 rfl ?_
  exact ret _ _ _ _ _ eX2_clear_11 (⟨rfl, ⟨n1_w1, d1_w1, by omega⟩, fr_w1⟩)
set_option maxHeartbeats 4000000 in
set_option maxRecDepth 100000 in
theorem c_X2_valueOf (l : Launch) (G : Gs) (b N : Nat) (w : Wd) (x : Int32) (how : Nat) (hh : how < 2) : CI l yX2_valueOf cX2_valueOf 2 (some .int) 0 G b N w [.int x, .int (nI how)] (fun r w2 => r = vS how x ∧ w2 = w) := by
  refine CI_of (L0 := [some (.int x), some (.int (nI how))]) (by decide) rfl (by simp [Value.category]) rfl (Nat.le_of_ble_eq_true rfl) rfl (fun κ X ret => ?_)
  refine r_iload_n X eX2_valueOf_0 rfl ?_
  refine r_if_ne (tgt := 26) X eX2_valueOf_1 (by decide) (nI_toInt (by omega)) (fun c_1 => ?_) (fun c_1 => ?_)
  ·
    refine r_iload_n X eX2_valueOf_26 rfl ?_
    by_cases s_2 : x.toInt = 46
    ·
      refine r_lookup (tgt := 60) (off := 33) X eX2_valueOf_27 (by decide) (by rw [s_2]; rfl) (by decide) ?_
      refine r_iconst X eX2_valueOf_60 (nI 0) (by decide) ?_
      exact ret _ _ _ _ _ eX2_valueOf_61 (⟨by rw [vS, if_neg (by omega), if_pos (by omega)]; rfl, rfl⟩)
    by_cases s_3 : x.toInt = 103
    ·
      refine r_lookup (tgt := 64) (off := 37) X eX2_valueOf_27 (by decide) (by rw [s_3]; rfl) (by decide) ?_
      refine r_iconst X eX2_valueOf_64 (nI 2) (by decide) ?_
      exact ret _ _ _ _ _ eX2_valueOf_65 (⟨by rw [vS, if_neg (by omega), if_neg (by omega), if_neg (by omega), if_pos (by omega)]; rfl, rfl⟩)
    by_cases s_4 : x.toInt = 107
    ·
      refine r_lookup (tgt := 62) (off := 35) X eX2_valueOf_27 (by decide) (by rw [s_4]; rfl) (by decide) ?_
      refine r_iconst X eX2_valueOf_62 (nI 1) (by decide) ?_
      exact ret _ _ _ _ _ eX2_valueOf_63 (⟨by rw [vS, if_neg (by omega), if_neg (by omega), if_pos (by omega)]; rfl, rfl⟩)
    refine r_lookup (tgt := 66) (off := 39) X eX2_valueOf_27 (by decide) (by simp only [Op.lookupswitch.offset_cons]; rw [if_neg (fun q => s_2 q.symm), if_neg (fun q => s_3 q.symm), if_neg (fun q => s_4 q.symm)]; rfl) (by decide) ?_
    refine r_bipush X eX2_valueOf_66 ((-6 : Int32)) (by decide) ?_
    exact ret _ _ _ _ _ eX2_valueOf_68 (⟨by rw [vS, if_neg (by omega), if_neg (by omega), if_neg (by omega), if_neg (by omega)], rfl⟩)
  ·
    refine r_iload_n X eX2_valueOf_4 rfl ?_
    refine r_bipush X eX2_valueOf_5 (nI 48) (by decide) ?_
    refine r_icmp_lt (tgt := 23) X eX2_valueOf_7 (by decide) rfl (nI_toInt (by omega)) (fun c_5 => ?_) (fun c_5 => ?_)
    ·
      refine r_bipush X eX2_valueOf_23 ((-6 : Int32)) (by decide) ?_
      exact ret _ _ _ _ _ eX2_valueOf_25 (⟨by rw [vS, if_pos (by omega), if_neg (by omega)], rfl⟩)
    ·
      refine r_iload_n X eX2_valueOf_10 rfl ?_
      refine r_bipush X eX2_valueOf_11 (nI 57) (by decide) ?_
      refine r_icmp_gt (tgt := 23) X eX2_valueOf_13 (by decide) rfl (nI_toInt (by omega)) (fun c_6 => ?_) (fun c_6 => ?_)
      ·
        refine r_bipush X eX2_valueOf_23 ((-6 : Int32)) (by decide) ?_
        exact ret _ _ _ _ _ eX2_valueOf_25 (⟨by rw [vS, if_pos (by omega), if_neg (by omega)], rfl⟩)
      ·
        refine r_iload_n X eX2_valueOf_16 rfl ?_
        refine r_bipush X eX2_valueOf_17 ((48 : Int32)) (by decide) ?_
        refine r_isub X eX2_valueOf_19 (x - ((48 : Int32))) rfl ?_
        refine r_goto (tgt := 25) X eX2_valueOf_20 (by decide) ?_
        exact ret _ _ _ _ _ eX2_valueOf_25 (⟨by rw [vS, if_pos (by omega), if_pos (by omega)], rfl⟩)
set_option maxHeartbeats 4000000 in
set_option maxRecDepth 100000 in
theorem c_X2_canStand (l : Launch) (G : Gs) (b N : Nat) (w : Wd) (x : Int32) (how : Nat) (hh : how < 2) (bt : Prop) [Decidable bt] : CI l yX2_canStand cX2_canStand 3 (some .boolean) 1 G b N w [.int x, .int (nI how), .int (bI bt)] (fun r w2 => r = bI (csS how x bt) ∧ w2 = w) := by
  refine CZ_of (L0 := [some (.int x), some (.int (nI how)), some (.int (bI bt))]) (by decide) rfl (by simp [Value.category]) rfl (Nat.le_of_ble_eq_true rfl) rfl (fun κ X ret => ?_)
  refine r_iload_n X eX2_canStand_0 rfl ?_
  refine r_ifeq_b (tgt := 18) X eX2_canStand_1 (by decide) (fun c_1 => ?_) (fun c_1 => ?_)
  ·
    refine r_iload_n X eX2_canStand_18 rfl ?_
    refine r_iload_n X eX2_canStand_19 rfl ?_
    refine cp_X2_23 X eX2_canStand_20 (c_X2_valueOf _ G b N w (x) how (by omega)) (by decide) rfl (Nat.le_of_ble_eq_true rfl) ?_
    refine r_if_lt (tgt := 30) X eX2_canStand_23 (by decide) rfl (fun c_2 => ?_) (fun c_2 => ?_)
    ·
      refine r_iconst X eX2_canStand_30 (nI 0) (by decide) ?_
      exact ret _ _ _ _ _ eX2_canStand_31 (Or.inl rfl) (⟨bI_f (by rw [csS, if_neg c_1]; omega), rfl⟩)
    ·
      refine r_iconst X eX2_canStand_26 (nI 1) (by decide) ?_
      refine r_goto (tgt := 31) X eX2_canStand_27 (by decide) ?_
      exact ret _ _ _ _ _ eX2_canStand_31 (Or.inr rfl) (⟨bI_t (by rw [csS, if_neg c_1]; omega), rfl⟩)
  ·
    refine r_iload_n X eX2_canStand_4 rfl ?_
    refine r_bipush X eX2_canStand_5 (nI 47) (by decide) ?_
    refine r_icmp_ne (tgt := 14) X eX2_canStand_7 (by decide) rfl (nI_toInt (by omega)) (fun c_3 => ?_) (fun c_3 => ?_)
    ·
      refine r_iconst X eX2_canStand_14 (nI 0) (by decide) ?_
      refine r_goto (tgt := 31) X eX2_canStand_15 (by decide) ?_
      exact ret _ _ _ _ _ eX2_canStand_31 (Or.inl rfl) (⟨bI_f (by rw [csS, if_pos c_1]; omega), rfl⟩)
    ·
      refine r_iconst X eX2_canStand_10 (nI 1) (by decide) ?_
      refine r_goto (tgt := 31) X eX2_canStand_11 (by decide) ?_
      exact ret _ _ _ _ _ eX2_canStand_31 (Or.inr rfl) (⟨bI_t (by rw [csS, if_pos c_1]; omega), rfl⟩)
set_option maxHeartbeats 4000000 in
set_option maxRecDepth 100000 in
theorem c_X2_firstFault (l : Launch) (G : Gs) (b N : Nat) (w : Wd) (kp : Nat) (hkp : kp + 2 ≤ N) (n : Nat) (sg : Nat → Int32) (hpd : isPad G b w kp n sg) (how wd hg : Nat) (hh : how < 2) (q1 : 2 ≤ wd) (q2 : wd ≤ 8) (q3 : 2 ≤ hg) (q4 : hg ≤ 8) : CI l yX2_firstFault cX2_firstFault 6 (some .int) 2 G b N w [.ref (b + kp), .int (nI how), .int (nI wd), .int (nI hg)] (fun r w2 => r = ffS how wd hg n sg ∧ w2 = w) := by
  obtain ⟨d0, d1, r1⟩ := hpd
  have hm1 := mulN (wd := wd) (hg := hg) q2 q4
  have hm2 := mul1 (wd := wd) (hg := hg) q3
  have hdu : duS wd hg = hg * (wd + 1) - 1 := rfl
  refine CI_of (L0 := [some (.ref (b + kp)), some (.int (nI how)), some (.int (nI wd)), some (.int (nI hg)), none, none]) (by decide) rfl (by simp [Value.category]) rfl (Nat.le_of_ble_eq_true rfl) rfl (fun κ X ret => ?_)
  refine r_iload_n X eX2_firstFault_0 rfl ?_
  refine r_iload_n X eX2_firstFault_1 rfl ?_
  refine r_iconst X eX2_firstFault_2 (nI 1) (by decide) ?_
  refine r_iadd X eX2_firstFault_3 (nI (wd + 1)) (addN (by omega)) ?_
  refine r_imul X eX2_firstFault_4 (nI (hg * (wd + 1))) (pk_mul _ _) ?_
  refine r_iconst X eX2_firstFault_5 (nI 1) (by decide) ?_
  refine r_isub X eX2_firstFault_6 (nI (duS wd hg)) (pk_sub (by omega)) ?_
  refine r_istore X eX2_firstFault_7 (Nat.le_of_ble_eq_true rfl) (L2 := [some (.ref (b + kp)), some (.int (nI how)), some (.int (nI wd)), some (.int (nI hg)), some (.int (nI (duS wd hg))), none]) rfl ?_
  refine r_iconst X eX2_firstFault_9 (nI 0) (by decide) ?_
  refine r_istore X eX2_firstFault_10 (Nat.le_of_ble_eq_true rfl) (L2 := [some (.ref (b + kp)), some (.int (nI how)), some (.int (nI wd)), some (.int (nI hg)), some (.int (nI (duS wd hg))), some (.int (nI 0))]) rfl ?_
  have lp1 : ∀ (fu : Nat) (i : Nat), (i ≤ n) → (∀ j, j < i → badS how wd hg sg j = false) → n - i < fu → V κ G b (N, 0, 0) w 12 [some (.ref (b + kp)), some (.int (nI how)), some (.int (nI wd)), some (.int (nI hg)), some (.int (nI (duS wd hg))), some (.int (nI i))] [] := by
    intro fu
    induction fu with
    | zero => intro i hi hz hm; exact absurd hm (Nat.not_lt_zero _)
    | succ fu ih1 =>
      intro i hi hz hm
      refine r_iload X eX2_firstFault_12 rfl ?_
      refine r_aload_n X eX2_firstFault_14 rfl ?_
      refine gf_X2_15 X eX2_firstFault_15 (by omega) d0 ?_
      refine r_icmp_ge (tgt := 66) X eX2_firstFault_18 (by decide) (nI_toInt (by omega)) (nI_toInt (by omega)) (fun c_2 => ?_) (fun c_2 => ?_)
      ·
        refine r_aload_n X eX2_firstFault_66 rfl ?_
        refine gf_X2_15 X eX2_firstFault_67 (by omega) d0 ?_
        refine r_iload X eX2_firstFault_70 rfl ?_
        refine r_icmp_ge (tgt := 82) X eX2_firstFault_72 (by decide) (nI_toInt (by omega)) (nI_toInt (by omega)) (fun c_3 => ?_) (fun c_3 => ?_)
        ·
          refine r_bipush X eX2_firstFault_82 ((-6 : Int32)) (by decide) ?_
          exact ret _ _ _ _ _ eX2_firstFault_84 (⟨by rw [ff_none hz (by omega), if_neg (by omega)], rfl⟩)
        ·
          refine r_aload_n X eX2_firstFault_75 rfl ?_
          refine gf_X2_15 X eX2_firstFault_76 (by omega) d0 ?_
          refine r_goto (tgt := 84) X eX2_firstFault_79 (by decide) ?_
          exact ret _ _ _ _ _ eX2_firstFault_84 (⟨by rw [ff_none hz (by omega), if_pos (by omega)], rfl⟩)
      ·
        refine r_iload X eX2_firstFault_21 rfl ?_
        refine r_iload X eX2_firstFault_23 rfl ?_
        refine r_icmp_ge (tgt := 57) X eX2_firstFault_25 (by decide) (nI_toInt (by omega)) (nI_toInt (by omega)) (fun c_4 => ?_) (fun c_4 => ?_)
        ·
          refine r_iload X eX2_firstFault_57 rfl ?_
          exact ret _ _ _ _ _ eX2_firstFault_59 (⟨ff_hit hz (Or.inl (by omega)) (by omega), rfl⟩)
        ·
          refine r_aload_n X eX2_firstFault_28 rfl ?_
          refine gf_X2_11 X eX2_firstFault_29 (by omega) d0 ?_
          refine r_iload X eX2_firstFault_32 rfl ?_
          refine r_iald X eX2_firstFault_34 (by omega) d1 (by omega) (by decide) ?_
          refine r_iload_n X eX2_firstFault_35 rfl ?_
          refine r_iload X eX2_firstFault_36 rfl ?_
          refine r_iload_n X eX2_firstFault_38 rfl ?_
          refine r_iconst X eX2_firstFault_39 (nI 1) (by decide) ?_
          refine r_iadd X eX2_firstFault_40 (nI (wd + 1)) (addN (by omega)) ?_
          refine r_irem X eX2_firstFault_41 (nI_ne0 (by omega) (by omega)) (nI (i % (wd + 1))) (pk_rem (by omega) (by omega) (by omega)) ?_
          refine r_iload_n X eX2_firstFault_42 rfl ?_
          have hmod := Nat.mod_lt i (show 0 < wd + 1 by omega)
          refine r_icmp_ne (tgt := 50) X eX2_firstFault_43 (by decide) (nI_toInt (by omega)) (nI_toInt (by omega)) (fun c_5 => ?_) (fun c_5 => ?_)
          ·
            refine r_iconst X eX2_firstFault_50 (nI 0) (by decide) ?_
            refine r_top (y := bI (i % (wd + 1) = wd)) (bI_f (by omega)) ?_
            refine cp_X2_19 X eX2_firstFault_51 (c_X2_canStand _ G b N w (sg i) how (by omega) (i % (wd + 1) = wd)) (by decide) rfl (Nat.le_of_ble_eq_true rfl) ?_
            refine r_ifne_b (tgt := 60) X eX2_firstFault_54 (by decide) (fun c_6 => ?_) (fun c_6 => ?_)
            ·
              refine r_iinc X eX2_firstFault_60 rfl (nI (i + 1)) (inc_nI _) (L2 := [some (.ref (b + kp)), some (.int (nI how)), some (.int (nI wd)), some (.int (nI hg)), some (.int (nI (duS wd hg))), some (.int (nI (i + 1)))]) rfl ?_
              refine r_goto (tgt := 12) X eX2_firstFault_63 (by decide) ?_
              exact ih1 (i + 1)  (by omega) (fun j hj => bad_st hz (by omega) c_6 hj)  (by omega)
            ·
              refine r_iload X eX2_firstFault_57 rfl ?_
              exact ret _ _ _ _ _ eX2_firstFault_59 (⟨ff_hit hz (Or.inr c_6) (by omega), rfl⟩)
          ·
            refine r_iconst X eX2_firstFault_46 (nI 1) (by decide) ?_
            refine r_goto (tgt := 51) X eX2_firstFault_47 (by decide) ?_
            refine r_top (y := bI (i % (wd + 1) = wd)) (bI_t (by omega)) ?_
            refine cp_X2_19 X eX2_firstFault_51 (c_X2_canStand _ G b N w (sg i) how (by omega) (i % (wd + 1) = wd)) (by decide) rfl (Nat.le_of_ble_eq_true rfl) ?_
            refine r_ifne_b (tgt := 60) X eX2_firstFault_54 (by decide) (fun c_7 => ?_) (fun c_7 => ?_)
            ·
              refine r_iinc X eX2_firstFault_60 rfl (nI (i + 1)) (inc_nI _) (L2 := [some (.ref (b + kp)), some (.int (nI how)), some (.int (nI wd)), some (.int (nI hg)), some (.int (nI (duS wd hg))), some (.int (nI (i + 1)))]) rfl ?_
              refine r_goto (tgt := 12) X eX2_firstFault_63 (by decide) ?_
              exact ih1 (i + 1)  (by omega) (fun j hj => bad_st hz (by omega) c_7 hj)  (by omega)
            ·
              refine r_iload X eX2_firstFault_57 rfl ?_
              exact ret _ _ _ _ _ eX2_firstFault_59 (⟨ff_hit hz (Or.inr c_7) (by omega), rfl⟩)
  exact lp1 _ 0  (by omega) (fun j hj => absurd hj (by omega))  (Nat.lt_succ_self _)
set_option maxHeartbeats 4000000 in
set_option maxRecDepth 100000 in
theorem c_X2_layOn_0 (l : Launch) (G : Gs) (b N : Nat) (w : Wd) (kp : Nat) (hkp : kp + 2 ≤ N) (n : Nat) (sg : Nat → Int32) (hpd : isPad G b w kp n sg) (k : Nat) (hdj : kp + 2 ≤ k ∨ k + 3 ≤ kp) (hk : k + 3 ≤ N) (wd hg lw : Nat) (ga ma : Nat → Int32) (hp : isPic G b w k wd hg lw ga ma) : CI l yX2_layOn cX2_layOn 8 (some .int) 2 G b N w [.ref (b + kp), .ref (b + k), .int (nI 0)] (fun r w2 => r = sm (fun y => sm (fun x => if vg 0 ga y x = vS 0 (sg (y * (wd + 1) + x)) then 0 else 1) wd) hg ∧ (∃ A, isPic G b w2 k wd hg lw A ma ∧ ∀ y x, y < hg → x < wd → vg 0 A y x = vS 0 (sg (y * (wd + 1) + x))) ∧ ∀ j, (j < k ∨ k + 3 ≤ j) → w2 j = w j) := by
  obtain ⟨d0, d1, r1⟩ := hpd
  obtain ⟨e0, e1, e2, q1, q2, q3, q4, q5⟩ := hp
  have hm1 := mulN (wd := wd) (hg := hg) q2 q4
  refine CI_of (L0 := [some (.ref (b + kp)), some (.ref (b + k)), some (.int (nI 0)), none, none, none, none, none]) (by decide) rfl (by simp [Value.category]) rfl (Nat.le_of_ble_eq_true rfl) rfl (fun κ X ret => ?_)
  have fr_w : ∀ j, (j < k ∨ k + 3 ≤ j) → w j = w j := fun _ _ => rfl
  refine r_iconst X eX2_layOn_0 ((0 : Int32)) (by decide) ?_
  refine r_istore_n X eX2_layOn_1 (Nat.le_of_ble_eq_true rfl) (L2 := [some (.ref (b + kp)), some (.ref (b + k)), some (.int (nI 0)), some (.int ((0 : Int32))), none, none, none, none]) rfl ?_
  refine r_iconst X eX2_layOn_2 (nI 0) (by decide) ?_
  refine r_istore X eX2_layOn_3 (Nat.le_of_ble_eq_true rfl) (L2 := [some (.ref (b + kp)), some (.ref (b + k)), some (.int (nI 0)), some (.int ((0 : Int32))), some (.int (nI 0)), none, none, none]) rfl ?_
  have lp1 : ∀ (fu : Nat) (y : Nat) (c : Int32) (A : Nat → Int32) (w1 : Wd), (y ≤ hg) → (c = sm (fun y => sm (fun x => if vg 0 ga y x = vS 0 (sg (y * (wd + 1) + x)) then 0 else 1) wd) y) → (LayI wd hg (fun y x => vS 0 (sg (y * (wd + 1) + x))) ga y 0 A) → (w1 kp = .inr (2, [.int (nI n), .ref (b + (kp + 1))])) → (w1 (kp + 1) = aI G 80 sg) → (w1 k = .inr (3, [.int (nI wd), .int (nI hg), .int (nI lw), .ref (b + (k + 1)), .ref (b + (k + 2))])) → (w1 (k + 1) = aI G 64 A) → (w1 (k + 2) = aI G 64 ma) → (∀ j, (j < k ∨ k + 3 ≤ j) → w1 j = w j) → hg - y < fu → V κ G b (N, 0, 0) w1 5 [some (.ref (b + kp)), some (.ref (b + k)), some (.int (nI 0)), some (.int c), some (.int (nI y)), none, none, none] [] := by
    intro fu
    induction fu with
    | zero => intro y c A w1 hy hc hA d0_w1 d1_w1 e0_w1 e1_w1 e2_w1 fr_w1 hm; exact absurd hm (Nat.not_lt_zero _)
    | succ fu ih1 =>
      intro y c A w1 hy hc hA d0_w1 d1_w1 e0_w1 e1_w1 e2_w1 fr_w1 hm
      refine r_iload X eX2_layOn_5 rfl ?_
      refine r_aload_n X eX2_layOn_7 rfl ?_
      refine gf_X2_27 X eX2_layOn_8 (by omega) e0_w1 ?_
      refine r_icmp_ge (tgt := 100) X eX2_layOn_11 (by decide) (nI_toInt (by omega)) (nI_toInt (by omega)) (fun c_2 => ?_) (fun c_2 => ?_)
      ·
        refine r_iload_n X eX2_layOn_100 rfl ?_
        exact ret _ _ _ _ _ eX2_layOn_101 (⟨hc.trans (sm_eq (by omega)), ⟨A, ⟨e0_w1, e1_w1, e2_w1, q1, q2, q3, q4, q5⟩, fun y x h1 h2 => LayI_end (by omega) hA y x h1 h2⟩, fr_w1⟩)
      ·
        refine r_iconst X eX2_layOn_14 (nI 0) (by decide) ?_
        refine r_istore X eX2_layOn_15 (Nat.le_of_ble_eq_true rfl) (L2 := [some (.ref (b + kp)), some (.ref (b + k)), some (.int (nI 0)), some (.int c), some (.int (nI y)), some (.int (nI 0)), none, none]) rfl ?_
        have lp3 : ∀ (fu : Nat) (x : Nat) (d : Int32) (A2 : Nat → Int32) (w3 : Wd), (x ≤ wd) → (d = c + sm (fun x => if vg 0 ga y x = vS 0 (sg (y * (wd + 1) + x)) then 0 else 1) x) → (LayI wd hg (fun y x => vS 0 (sg (y * (wd + 1) + x))) ga y x A2) → (w3 kp = .inr (2, [.int (nI n), .ref (b + (kp + 1))])) → (w3 (kp + 1) = aI G 80 sg) → (w3 k = .inr (3, [.int (nI wd), .int (nI hg), .int (nI lw), .ref (b + (k + 1)), .ref (b + (k + 2))])) → (w3 (k + 1) = aI G 64 A2) → (w3 (k + 2) = aI G 64 ma) → (∀ j, (j < k ∨ k + 3 ≤ j) → w3 j = w j) → wd - x < fu → V κ G b (N, 0, 0) w3 17 [some (.ref (b + kp)), some (.ref (b + k)), some (.int (nI 0)), some (.int d), some (.int (nI y)), some (.int (nI x)), none, none] [] := by
          intro fu
          induction fu with
          | zero => intro x d A2 w3 hx hd hA2 d0_w3 d1_w3 e0_w3 e1_w3 e2_w3 fr_w3 hm; exact absurd hm (Nat.not_lt_zero _)
          | succ fu ih3 =>
            intro x d A2 w3 hx hd hA2 d0_w3 d1_w3 e0_w3 e1_w3 e2_w3 fr_w3 hm
            refine r_iload X eX2_layOn_17 rfl ?_
            refine r_aload_n X eX2_layOn_19 rfl ?_
            refine gf_X2_32 X eX2_layOn_20 (by omega) e0_w3 ?_
            refine r_icmp_ge (tgt := 94) X eX2_layOn_23 (by decide) (nI_toInt (by omega)) (nI_toInt (by omega)) (fun c_4 => ?_) (fun c_4 => ?_)
            ·
              refine r_iinc X eX2_layOn_94 rfl (nI (y + 1)) (inc_nI _) (L2 := [some (.ref (b + kp)), some (.ref (b + k)), some (.int (nI 0)), some (.int d), some (.int (nI (y + 1))), some (.int (nI x)), none, none]) rfl ?_
              refine r_goto (tgt := 5) X eX2_layOn_97 (by decide) ?_
              refine r_fg 5 (L2 := [some (.ref (b + kp)), some (.ref (b + k)), some (.int (nI 0)), some (.int d), some (.int (nI (y + 1))), none, none, none]) rfl ?_
              exact ih1 (y + 1) d A2 w3 (by omega) (by rw [hd, hc, sm_eq (show x = wd by omega)]; rfl) (LayI_out (by omega) hA2) d0_w3 d1_w3 e0_w3 e1_w3 e2_w3 fr_w3 (by omega)
            ·
              have hml := mulL (x := x) (wd := wd) (y := y) (hg := hg) (by omega) (by omega)
              refine r_aload_n X eX2_layOn_26 rfl ?_
              refine gf_X2_11 X eX2_layOn_27 (by omega) d0_w3 ?_
              refine r_iload X eX2_layOn_30 rfl ?_
              refine r_aload_n X eX2_layOn_32 rfl ?_
              refine gf_X2_32 X eX2_layOn_33 (by omega) e0_w3 ?_
              refine r_iconst X eX2_layOn_36 (nI 1) (by decide) ?_
              refine r_iadd X eX2_layOn_37 (nI (wd + 1)) (addN (by omega)) ?_
              refine r_imul X eX2_layOn_38 (nI (y * (wd + 1))) (pk_mul _ _) ?_
              refine r_iload X eX2_layOn_39 rfl ?_
              refine r_iadd X eX2_layOn_41 (nI (y * (wd + 1) + x)) (addN rfl) ?_
              refine r_iald X eX2_layOn_42 (by omega) d1_w3 (by omega) (by decide) ?_
              refine r_iload_n X eX2_layOn_43 rfl ?_
              refine cp_X2_23 X eX2_layOn_44 (c_X2_valueOf _ G b N w3 (sg (y * (wd + 1) + x)) 0 (by omega)) (by decide) rfl (Nat.le_of_ble_eq_true rfl) ?_
              refine r_istore X eX2_layOn_47 (Nat.le_of_ble_eq_true rfl) (L2 := [some (.ref (b + kp)), some (.ref (b + k)), some (.int (nI 0)), some (.int d), some (.int (nI y)), some (.int (nI x)), some (.int (vS 0 (sg (y * (wd + 1) + x)))), none]) rfl ?_
              refine r_iload_n X eX2_layOn_49 rfl ?_
              refine r_if_ne (tgt := 66) X eX2_layOn_50 (by decide) (nI_toInt (by omega)) (fun c_5 => absurd c_5 (by omega)) (fun c_5 => ?_)
              refine r_aload_n X eX2_layOn_53 rfl ?_
              refine r_iload X eX2_layOn_54 rfl ?_
              refine r_iload X eX2_layOn_56 rfl ?_
              refine r_iload X eX2_layOn_58 rfl ?_
              refine cv_X2_35 X eX2_layOn_60 (c_X3_changeGrey _ G b N w3 k hk wd hg lw A2 ma ⟨e0_w3, e1_w3, e2_w3, q1, q2, q3, q4, q5⟩ x y (by omega) (by omega) (vS 0 (sg (y * (wd + 1) + x)))) (by decide) (by omega) e0_w3 rfl (Nat.le_of_ble_eq_true rfl) (fun r6 w6 hp6 => ?_)
              obtain ⟨ro, ⟨x0_6, x1_6, x2_6, -, -, -, -, -⟩, g6⟩ := hp6
              have d0_w6 := (g6 kp (by omega)).trans d0_w3
              have d1_w6 := (g6 (kp + 1) (by omega)).trans d1_w3
              have m7_w6 : w6 k = .inr (3, [.int (nI wd), .int (nI hg), .int (nI lw), .ref (b + (k + 1)), .ref (b + (k + 2))]) := x0_6
              have m8_w6 : w6 (k + 1) = aI G 64 (upd A2 (ix 0 y x) (vS 0 (sg (y * (wd + 1) + x)))) := x1_6
              have m9_w6 : w6 (k + 2) = aI G 64 ma := x2_6
              have fr_w6 : ∀ j, (j < k ∨ k + 3 ≤ j) → w6 j = w j := fun j hj => (g6 j (by omega)).trans (fr_w3 j hj)
              refine r_top (y := vg 0 ga y x) (ro.trans (by have hh := hA2 y x (by omega) (by omega); rw [if_neg (by omega)] at hh; exact hh)) ?_
              refine r_goto (tgt := 76) X eX2_layOn_63 (by decide) ?_
              refine r_istore X eX2_layOn_76 (Nat.le_of_ble_eq_true rfl) (L2 := [some (.ref (b + kp)), some (.ref (b + k)), some (.int (nI 0)), some (.int d), some (.int (nI y)), some (.int (nI x)), some (.int (vS 0 (sg (y * (wd + 1) + x)))), some (.int (vg 0 ga y x))]) rfl ?_
              refine r_iload X eX2_layOn_78 rfl ?_
              refine r_iload X eX2_layOn_80 rfl ?_
              refine r_icmp_eq (tgt := 88) X eX2_layOn_82 (by decide) rfl rfl (fun c_10 => ?_) (fun c_10 => ?_)
              ·
                refine r_iinc X eX2_layOn_88 rfl (nI (x + 1)) (inc_nI _) (L2 := [some (.ref (b + kp)), some (.ref (b + k)), some (.int (nI 0)), some (.int d), some (.int (nI y)), some (.int (nI (x + 1))), some (.int (vS 0 (sg (y * (wd + 1) + x)))), some (.int (vg 0 ga y x))]) rfl ?_
                refine r_goto (tgt := 17) X eX2_layOn_91 (by decide) ?_
                refine r_fg 6 (L2 := [some (.ref (b + kp)), some (.ref (b + k)), some (.int (nI 0)), some (.int d), some (.int (nI y)), some (.int (nI (x + 1))), none, some (.int (vg 0 ga y x))]) rfl ?_
                refine r_fg 7 (L2 := [some (.ref (b + kp)), some (.ref (b + k)), some (.int (nI 0)), some (.int d), some (.int (nI y)), some (.int (nI (x + 1))), none, none]) rfl ?_
                exact ih3 (x + 1) d (upd A2 (ix 0 y x) (vS 0 (sg (y * (wd + 1) + x)))) w6 (by omega) (by rw [hd, sm, if_pos (Int32.toInt_inj.mp c_10), Int32.add_zero]) (LayI_st (by omega) (by omega) (by omega) (by omega) hA2) d0_w6 d1_w6 m7_w6 m8_w6 m9_w6 fr_w6 (by omega)
              ·
                refine r_iinc X eX2_layOn_85 rfl (d + Int32.ofInt (1)) rfl (L2 := [some (.ref (b + kp)), some (.ref (b + k)), some (.int (nI 0)), some (.int (d + Int32.ofInt (1))), some (.int (nI y)), some (.int (nI x)), some (.int (vS 0 (sg (y * (wd + 1) + x)))), some (.int (vg 0 ga y x))]) rfl ?_
                refine r_iinc X eX2_layOn_88 rfl (nI (x + 1)) (inc_nI _) (L2 := [some (.ref (b + kp)), some (.ref (b + k)), some (.int (nI 0)), some (.int (d + Int32.ofInt (1))), some (.int (nI y)), some (.int (nI (x + 1))), some (.int (vS 0 (sg (y * (wd + 1) + x)))), some (.int (vg 0 ga y x))]) rfl ?_
                refine r_goto (tgt := 17) X eX2_layOn_91 (by decide) ?_
                refine r_fg 6 (L2 := [some (.ref (b + kp)), some (.ref (b + k)), some (.int (nI 0)), some (.int (d + Int32.ofInt (1))), some (.int (nI y)), some (.int (nI (x + 1))), none, some (.int (vg 0 ga y x))]) rfl ?_
                refine r_fg 7 (L2 := [some (.ref (b + kp)), some (.ref (b + k)), some (.int (nI 0)), some (.int (d + Int32.ofInt (1))), some (.int (nI y)), some (.int (nI (x + 1))), none, none]) rfl ?_
                exact ih3 (x + 1) (d + Int32.ofInt (1)) (upd A2 (ix 0 y x) (vS 0 (sg (y * (wd + 1) + x)))) w6 (by omega) (by rw [hd, sm, if_neg (fun q => c_10 (congrArg Int32.toInt q)), Int32.add_assoc]; rfl) (LayI_st (by omega) (by omega) (by omega) (by omega) hA2) d0_w6 d1_w6 m7_w6 m8_w6 m9_w6 fr_w6 (by omega)
        exact lp3 _ 0 c A w1 (by omega) (Int32.add_zero c).symm hA d0_w1 d1_w1 e0_w1 e1_w1 e2_w1 fr_w1 (Nat.lt_succ_self _)
  exact lp1 _ 0 0 ga w (by omega) rfl LayI_0 d0 d1 e0 e1 e2 fr_w (Nat.lt_succ_self _)
set_option maxHeartbeats 4000000 in
set_option maxRecDepth 100000 in
theorem c_X2_layOn_1 (l : Launch) (G : Gs) (b N : Nat) (w : Wd) (kp : Nat) (hkp : kp + 2 ≤ N) (n : Nat) (sg : Nat → Int32) (hpd : isPad G b w kp n sg) (k : Nat) (hdj : kp + 2 ≤ k ∨ k + 3 ≤ kp) (hk : k + 3 ≤ N) (wd hg lw : Nat) (ga ma : Nat → Int32) (hp : isPic G b w k wd hg lw ga ma) : CI l yX2_layOn cX2_layOn 8 (some .int) 2 G b N w [.ref (b + kp), .ref (b + k), .int (nI 1)] (fun r w2 => r = sm (fun y => sm (fun x => if vg 0 ma y x = vS 1 (sg (y * (wd + 1) + x)) then 0 else 1) wd) hg ∧ (∃ A, isPic G b w2 k wd hg lw ga A ∧ ∀ y x, y < hg → x < wd → vg 0 A y x = vS 1 (sg (y * (wd + 1) + x))) ∧ ∀ j, (j < k ∨ k + 3 ≤ j) → w2 j = w j) := by
  obtain ⟨d0, d1, r1⟩ := hpd
  obtain ⟨e0, e1, e2, q1, q2, q3, q4, q5⟩ := hp
  have hm1 := mulN (wd := wd) (hg := hg) q2 q4
  refine CI_of (L0 := [some (.ref (b + kp)), some (.ref (b + k)), some (.int (nI 1)), none, none, none, none, none]) (by decide) rfl (by simp [Value.category]) rfl (Nat.le_of_ble_eq_true rfl) rfl (fun κ X ret => ?_)
  have fr_w : ∀ j, (j < k ∨ k + 3 ≤ j) → w j = w j := fun _ _ => rfl
  refine r_iconst X eX2_layOn_0 ((0 : Int32)) (by decide) ?_
  refine r_istore_n X eX2_layOn_1 (Nat.le_of_ble_eq_true rfl) (L2 := [some (.ref (b + kp)), some (.ref (b + k)), some (.int (nI 1)), some (.int ((0 : Int32))), none, none, none, none]) rfl ?_
  refine r_iconst X eX2_layOn_2 (nI 0) (by decide) ?_
  refine r_istore X eX2_layOn_3 (Nat.le_of_ble_eq_true rfl) (L2 := [some (.ref (b + kp)), some (.ref (b + k)), some (.int (nI 1)), some (.int ((0 : Int32))), some (.int (nI 0)), none, none, none]) rfl ?_
  have lp1 : ∀ (fu : Nat) (y : Nat) (c : Int32) (A : Nat → Int32) (w1 : Wd), (y ≤ hg) → (c = sm (fun y => sm (fun x => if vg 0 ma y x = vS 1 (sg (y * (wd + 1) + x)) then 0 else 1) wd) y) → (LayI wd hg (fun y x => vS 1 (sg (y * (wd + 1) + x))) ma y 0 A) → (w1 kp = .inr (2, [.int (nI n), .ref (b + (kp + 1))])) → (w1 (kp + 1) = aI G 80 sg) → (w1 k = .inr (3, [.int (nI wd), .int (nI hg), .int (nI lw), .ref (b + (k + 1)), .ref (b + (k + 2))])) → (w1 (k + 1) = aI G 64 ga) → (w1 (k + 2) = aI G 64 A) → (∀ j, (j < k ∨ k + 3 ≤ j) → w1 j = w j) → hg - y < fu → V κ G b (N, 0, 0) w1 5 [some (.ref (b + kp)), some (.ref (b + k)), some (.int (nI 1)), some (.int c), some (.int (nI y)), none, none, none] [] := by
    intro fu
    induction fu with
    | zero => intro y c A w1 hy hc hA d0_w1 d1_w1 e0_w1 e1_w1 e2_w1 fr_w1 hm; exact absurd hm (Nat.not_lt_zero _)
    | succ fu ih1 =>
      intro y c A w1 hy hc hA d0_w1 d1_w1 e0_w1 e1_w1 e2_w1 fr_w1 hm
      refine r_iload X eX2_layOn_5 rfl ?_
      refine r_aload_n X eX2_layOn_7 rfl ?_
      refine gf_X2_27 X eX2_layOn_8 (by omega) e0_w1 ?_
      refine r_icmp_ge (tgt := 100) X eX2_layOn_11 (by decide) (nI_toInt (by omega)) (nI_toInt (by omega)) (fun c_2 => ?_) (fun c_2 => ?_)
      ·
        refine r_iload_n X eX2_layOn_100 rfl ?_
        exact ret _ _ _ _ _ eX2_layOn_101 (⟨hc.trans (sm_eq (by omega)), ⟨A, ⟨e0_w1, e1_w1, e2_w1, q1, q2, q3, q4, q5⟩, fun y x h1 h2 => LayI_end (by omega) hA y x h1 h2⟩, fr_w1⟩)
      ·
        refine r_iconst X eX2_layOn_14 (nI 0) (by decide) ?_
        refine r_istore X eX2_layOn_15 (Nat.le_of_ble_eq_true rfl) (L2 := [some (.ref (b + kp)), some (.ref (b + k)), some (.int (nI 1)), some (.int c), some (.int (nI y)), some (.int (nI 0)), none, none]) rfl ?_
        have lp3 : ∀ (fu : Nat) (x : Nat) (d : Int32) (A2 : Nat → Int32) (w3 : Wd), (x ≤ wd) → (d = c + sm (fun x => if vg 0 ma y x = vS 1 (sg (y * (wd + 1) + x)) then 0 else 1) x) → (LayI wd hg (fun y x => vS 1 (sg (y * (wd + 1) + x))) ma y x A2) → (w3 kp = .inr (2, [.int (nI n), .ref (b + (kp + 1))])) → (w3 (kp + 1) = aI G 80 sg) → (w3 k = .inr (3, [.int (nI wd), .int (nI hg), .int (nI lw), .ref (b + (k + 1)), .ref (b + (k + 2))])) → (w3 (k + 1) = aI G 64 ga) → (w3 (k + 2) = aI G 64 A2) → (∀ j, (j < k ∨ k + 3 ≤ j) → w3 j = w j) → wd - x < fu → V κ G b (N, 0, 0) w3 17 [some (.ref (b + kp)), some (.ref (b + k)), some (.int (nI 1)), some (.int d), some (.int (nI y)), some (.int (nI x)), none, none] [] := by
          intro fu
          induction fu with
          | zero => intro x d A2 w3 hx hd hA2 d0_w3 d1_w3 e0_w3 e1_w3 e2_w3 fr_w3 hm; exact absurd hm (Nat.not_lt_zero _)
          | succ fu ih3 =>
            intro x d A2 w3 hx hd hA2 d0_w3 d1_w3 e0_w3 e1_w3 e2_w3 fr_w3 hm
            refine r_iload X eX2_layOn_17 rfl ?_
            refine r_aload_n X eX2_layOn_19 rfl ?_
            refine gf_X2_32 X eX2_layOn_20 (by omega) e0_w3 ?_
            refine r_icmp_ge (tgt := 94) X eX2_layOn_23 (by decide) (nI_toInt (by omega)) (nI_toInt (by omega)) (fun c_4 => ?_) (fun c_4 => ?_)
            ·
              refine r_iinc X eX2_layOn_94 rfl (nI (y + 1)) (inc_nI _) (L2 := [some (.ref (b + kp)), some (.ref (b + k)), some (.int (nI 1)), some (.int d), some (.int (nI (y + 1))), some (.int (nI x)), none, none]) rfl ?_
              refine r_goto (tgt := 5) X eX2_layOn_97 (by decide) ?_
              refine r_fg 5 (L2 := [some (.ref (b + kp)), some (.ref (b + k)), some (.int (nI 1)), some (.int d), some (.int (nI (y + 1))), none, none, none]) rfl ?_
              exact ih1 (y + 1) d A2 w3 (by omega) (by rw [hd, hc, sm_eq (show x = wd by omega)]; rfl) (LayI_out (by omega) hA2) d0_w3 d1_w3 e0_w3 e1_w3 e2_w3 fr_w3 (by omega)
            ·
              have hml := mulL (x := x) (wd := wd) (y := y) (hg := hg) (by omega) (by omega)
              refine r_aload_n X eX2_layOn_26 rfl ?_
              refine gf_X2_11 X eX2_layOn_27 (by omega) d0_w3 ?_
              refine r_iload X eX2_layOn_30 rfl ?_
              refine r_aload_n X eX2_layOn_32 rfl ?_
              refine gf_X2_32 X eX2_layOn_33 (by omega) e0_w3 ?_
              refine r_iconst X eX2_layOn_36 (nI 1) (by decide) ?_
              refine r_iadd X eX2_layOn_37 (nI (wd + 1)) (addN (by omega)) ?_
              refine r_imul X eX2_layOn_38 (nI (y * (wd + 1))) (pk_mul _ _) ?_
              refine r_iload X eX2_layOn_39 rfl ?_
              refine r_iadd X eX2_layOn_41 (nI (y * (wd + 1) + x)) (addN rfl) ?_
              refine r_iald X eX2_layOn_42 (by omega) d1_w3 (by omega) (by decide) ?_
              refine r_iload_n X eX2_layOn_43 rfl ?_
              refine cp_X2_23 X eX2_layOn_44 (c_X2_valueOf _ G b N w3 (sg (y * (wd + 1) + x)) 1 (by omega)) (by decide) rfl (Nat.le_of_ble_eq_true rfl) ?_
              refine r_istore X eX2_layOn_47 (Nat.le_of_ble_eq_true rfl) (L2 := [some (.ref (b + kp)), some (.ref (b + k)), some (.int (nI 1)), some (.int d), some (.int (nI y)), some (.int (nI x)), some (.int (vS 1 (sg (y * (wd + 1) + x)))), none]) rfl ?_
              refine r_iload_n X eX2_layOn_49 rfl ?_
              refine r_if_ne (tgt := 66) X eX2_layOn_50 (by decide) (nI_toInt (by omega)) (fun c_5 => ?_) (fun c_5 => absurd c_5 (by omega))
              refine r_aload_n X eX2_layOn_66 rfl ?_
              refine r_iload X eX2_layOn_67 rfl ?_
              refine r_iload X eX2_layOn_69 rfl ?_
              refine r_iload X eX2_layOn_71 rfl ?_
              refine cv_X2_39 X eX2_layOn_73 (c_X3_changeMark _ G b N w3 k hk wd hg lw ga A2 ⟨e0_w3, e1_w3, e2_w3, q1, q2, q3, q4, q5⟩ x y (by omega) (by omega) (vS 1 (sg (y * (wd + 1) + x)))) (by decide) (by omega) e0_w3 rfl (Nat.le_of_ble_eq_true rfl) (fun r6 w6 hp6 => ?_)
              obtain ⟨ro, ⟨x0_6, x1_6, x2_6, -, -, -, -, -⟩, g6⟩ := hp6
              have d0_w6 := (g6 kp (by omega)).trans d0_w3
              have d1_w6 := (g6 (kp + 1) (by omega)).trans d1_w3
              have m7_w6 : w6 k = .inr (3, [.int (nI wd), .int (nI hg), .int (nI lw), .ref (b + (k + 1)), .ref (b + (k + 2))]) := x0_6
              have m8_w6 : w6 (k + 1) = aI G 64 ga := x1_6
              have m9_w6 : w6 (k + 2) = aI G 64 (upd A2 (ix 0 y x) (vS 1 (sg (y * (wd + 1) + x)))) := x2_6
              have fr_w6 : ∀ j, (j < k ∨ k + 3 ≤ j) → w6 j = w j := fun j hj => (g6 j (by omega)).trans (fr_w3 j hj)
              refine r_top (y := vg 0 ma y x) (ro.trans (by have hh := hA2 y x (by omega) (by omega); rw [if_neg (by omega)] at hh; exact hh)) ?_
              refine r_istore X eX2_layOn_76 (Nat.le_of_ble_eq_true rfl) (L2 := [some (.ref (b + kp)), some (.ref (b + k)), some (.int (nI 1)), some (.int d), some (.int (nI y)), some (.int (nI x)), some (.int (vS 1 (sg (y * (wd + 1) + x)))), some (.int (vg 0 ma y x))]) rfl ?_
              refine r_iload X eX2_layOn_78 rfl ?_
              refine r_iload X eX2_layOn_80 rfl ?_
              refine r_icmp_eq (tgt := 88) X eX2_layOn_82 (by decide) rfl rfl (fun c_10 => ?_) (fun c_10 => ?_)
              ·
                refine r_iinc X eX2_layOn_88 rfl (nI (x + 1)) (inc_nI _) (L2 := [some (.ref (b + kp)), some (.ref (b + k)), some (.int (nI 1)), some (.int d), some (.int (nI y)), some (.int (nI (x + 1))), some (.int (vS 1 (sg (y * (wd + 1) + x)))), some (.int (vg 0 ma y x))]) rfl ?_
                refine r_goto (tgt := 17) X eX2_layOn_91 (by decide) ?_
                refine r_fg 6 (L2 := [some (.ref (b + kp)), some (.ref (b + k)), some (.int (nI 1)), some (.int d), some (.int (nI y)), some (.int (nI (x + 1))), none, some (.int (vg 0 ma y x))]) rfl ?_
                refine r_fg 7 (L2 := [some (.ref (b + kp)), some (.ref (b + k)), some (.int (nI 1)), some (.int d), some (.int (nI y)), some (.int (nI (x + 1))), none, none]) rfl ?_
                exact ih3 (x + 1) d (upd A2 (ix 0 y x) (vS 1 (sg (y * (wd + 1) + x)))) w6 (by omega) (by rw [hd, sm, if_pos (Int32.toInt_inj.mp c_10), Int32.add_zero]) (LayI_st (by omega) (by omega) (by omega) (by omega) hA2) d0_w6 d1_w6 m7_w6 m8_w6 m9_w6 fr_w6 (by omega)
              ·
                refine r_iinc X eX2_layOn_85 rfl (d + Int32.ofInt (1)) rfl (L2 := [some (.ref (b + kp)), some (.ref (b + k)), some (.int (nI 1)), some (.int (d + Int32.ofInt (1))), some (.int (nI y)), some (.int (nI x)), some (.int (vS 1 (sg (y * (wd + 1) + x)))), some (.int (vg 0 ma y x))]) rfl ?_
                refine r_iinc X eX2_layOn_88 rfl (nI (x + 1)) (inc_nI _) (L2 := [some (.ref (b + kp)), some (.ref (b + k)), some (.int (nI 1)), some (.int (d + Int32.ofInt (1))), some (.int (nI y)), some (.int (nI (x + 1))), some (.int (vS 1 (sg (y * (wd + 1) + x)))), some (.int (vg 0 ma y x))]) rfl ?_
                refine r_goto (tgt := 17) X eX2_layOn_91 (by decide) ?_
                refine r_fg 6 (L2 := [some (.ref (b + kp)), some (.ref (b + k)), some (.int (nI 1)), some (.int (d + Int32.ofInt (1))), some (.int (nI y)), some (.int (nI (x + 1))), none, some (.int (vg 0 ma y x))]) rfl ?_
                refine r_fg 7 (L2 := [some (.ref (b + kp)), some (.ref (b + k)), some (.int (nI 1)), some (.int (d + Int32.ofInt (1))), some (.int (nI y)), some (.int (nI (x + 1))), none, none]) rfl ?_
                exact ih3 (x + 1) (d + Int32.ofInt (1)) (upd A2 (ix 0 y x) (vS 1 (sg (y * (wd + 1) + x)))) w6 (by omega) (by rw [hd, sm, if_neg (fun q => c_10 (congrArg Int32.toInt q)), Int32.add_assoc]; rfl) (LayI_st (by omega) (by omega) (by omega) (by omega) hA2) d0_w6 d1_w6 m7_w6 m8_w6 m9_w6 fr_w6 (by omega)
        exact lp3 _ 0 c A w1 (by omega) (Int32.add_zero c).symm hA d0_w1 d1_w1 e0_w1 e1_w1 e2_w1 fr_w1 (Nat.lt_succ_self _)
  exact lp1 _ 0 0 ma w (by omega) rfl LayI_0 d0 d1 e0 e1 e2 fr_w (Nat.lt_succ_self _)
