set_option maxHeartbeats 4000000 in
set_option maxRecDepth 100000 in
theorem c_X1_compare (l : Launch) (G : Gs) (b N : Nat) (w : Wd) (ko : Nat) (hko : ko + 27 ≤ N) (ac : Acc) (hcn : ac.2.2.2 < 2 ^ 20) (ho : w ko = osF b ko ac) (o : List Nat) (c kp : Int32) : CV l yX1_compare cX1_compare 4 0 G b N w [.ref (b + ko), .int (nI (enc o)), .int c, .int kp] (fun w2 => w2 ko = osF b ko (cmpS ac o c kp) ∧ ∀ j, (j < ko ∨ ko + 1 ≤ j) → w2 j = w j) := by
  refine CV_of (L0 := [some (.ref (b + ko)), some (.int (nI (enc o))), some (.int c), some (.int kp)]) (by decide) rfl (by simp [Value.category]) rfl (Nat.le_of_ble_eq_true rfl) (fun κ X ret => ?_)
  have fr_w : ∀ j, (j < ko ∨ ko + 1 ≤ j) → w j = w j := fun _ _ => rfl
  refine r_aload_n X eX1_compare_0 rfl ?_
  refine gf_X1_25 X eX1_compare_1 (by omega) ho ?_
  refine r_if_le (tgt := 28) X eX1_compare_4 (by decide) (nI_toInt (by omega)) (fun c_1 => ?_) (fun c_1 => ?_)
  ·
    refine r_aload_n X eX1_compare_28 rfl ?_
    refine gf_X1_25 X eX1_compare_29 (by omega) ho ?_
    refine r_if_eq (tgt := 43) X eX1_compare_32 (by decide) (nI_toInt (by omega)) (fun c_2 => ?_) (fun c_2 => ?_)
    ·
      refine r_aload_n X eX1_compare_43 rfl ?_
      refine r_iload_n X eX1_compare_44 rfl ?_
      refine pf_X1_56 X eX1_compare_45 (by omega) ho (fun w3 n3_w3 uu3 => ?_)
      have fr_w3 : ∀ j, (j < ko ∨ ko + 1 ≤ j) → w3 j = w j := fun j hj => (uu3 j (by omega)).trans (fr_w j hj)
      refine r_aload_n X eX1_compare_48 rfl ?_
      refine r_iload_n X eX1_compare_49 rfl ?_
      refine pf_X1_59 X eX1_compare_50 (by omega) n3_w3 (fun w4 n4_w4 uu4 => ?_)
      have fr_w4 : ∀ j, (j < ko ∨ ko + 1 ≤ j) → w4 j = w j := fun j hj => (uu4 j (by omega)).trans (fr_w3 j hj)
      refine r_aload_n X eX1_compare_53 rfl ?_
      refine r_iload_n X eX1_compare_54 rfl ?_
      refine pf_X1_62 X eX1_compare_55 (by omega) n4_w4 (fun w5 n5_w5 uu5 => ?_)
      have fr_w5 : ∀ j, (j < ko ∨ ko + 1 ≤ j) → w5 j = w j := fun j hj => (uu5 j (by omega)).trans (fr_w4 j hj)
      refine r_aload_n X eX1_compare_58 rfl ?_
      refine r_iconst X eX1_compare_59 (nI 1) (by decide) ?_
      refine pf_X1_25 X eX1_compare_60 (by omega) n5_w5 (fun w6 n6_w6 uu6 => ?_)
      have fr_w6 : ∀ j, (j < ko ∨ ko + 1 ≤ j) → w6 j = w j := fun j hj => (uu6 j (by omega)).trans (fr_w5 j hj)
      exact ret _ _ _ _ eX1_compare_63 (⟨(n6_w6).trans (congrArg (osF b ko) (show (c, o, kp, 1) = cmpS ac o c kp by rw [cmpS, if_neg (fun q => absurd q.1 (by omega)), if_pos (Or.inl (by omega))])), fr_w6⟩)
    ·
      refine r_iload_n X eX1_compare_35 rfl ?_
      refine r_aload_n X eX1_compare_36 rfl ?_
      refine gf_X1_56 X eX1_compare_37 (by omega) ho ?_
      refine r_icmp_ge (tgt := 63) X eX1_compare_40 (by decide) rfl rfl (fun c_7 => ?_) (fun c_7 => ?_)
      ·
        exact ret _ _ _ _ eX1_compare_63 (⟨(ho).trans (congrArg (osF b ko) (show ac = cmpS ac o c kp by rw [cmpS, if_neg (fun q => absurd q.1 (by omega)), if_neg (fun q => q.elim (fun z => by omega) (fun z => by have := Int32.lt_iff_toInt_lt.mp z; omega))])), fr_w⟩)
      ·
        refine r_aload_n X eX1_compare_43 rfl ?_
        refine r_iload_n X eX1_compare_44 rfl ?_
        refine pf_X1_56 X eX1_compare_45 (by omega) ho (fun w8 n8_w8 uu8 => ?_)
        have fr_w8 : ∀ j, (j < ko ∨ ko + 1 ≤ j) → w8 j = w j := fun j hj => (uu8 j (by omega)).trans (fr_w j hj)
        refine r_aload_n X eX1_compare_48 rfl ?_
        refine r_iload_n X eX1_compare_49 rfl ?_
        refine pf_X1_59 X eX1_compare_50 (by omega) n8_w8 (fun w9 n9_w9 uu9 => ?_)
        have fr_w9 : ∀ j, (j < ko ∨ ko + 1 ≤ j) → w9 j = w j := fun j hj => (uu9 j (by omega)).trans (fr_w8 j hj)
        refine r_aload_n X eX1_compare_53 rfl ?_
        refine r_iload_n X eX1_compare_54 rfl ?_
        refine pf_X1_62 X eX1_compare_55 (by omega) n9_w9 (fun w10 n10_w10 uu10 => ?_)
        have fr_w10 : ∀ j, (j < ko ∨ ko + 1 ≤ j) → w10 j = w j := fun j hj => (uu10 j (by omega)).trans (fr_w9 j hj)
        refine r_aload_n X eX1_compare_58 rfl ?_
        refine r_iconst X eX1_compare_59 (nI 1) (by decide) ?_
        refine pf_X1_25 X eX1_compare_60 (by omega) n10_w10 (fun w11 n11_w11 uu11 => ?_)
        have fr_w11 : ∀ j, (j < ko ∨ ko + 1 ≤ j) → w11 j = w j := fun j hj => (uu11 j (by omega)).trans (fr_w10 j hj)
        exact ret _ _ _ _ eX1_compare_63 (⟨(n11_w11).trans (congrArg (osF b ko) (show (c, o, kp, 1) = cmpS ac o c kp by rw [cmpS, if_neg (fun q => absurd q.1 (by omega)), if_pos (Or.inr (Int32.lt_iff_toInt_lt.mpr c_7))])), fr_w11⟩)
  ·
    refine r_iload_n X eX1_compare_7 rfl ?_
    refine r_aload_n X eX1_compare_8 rfl ?_
    refine gf_X1_56 X eX1_compare_9 (by omega) ho ?_
    refine r_icmp_ne (tgt := 28) X eX1_compare_12 (by decide) rfl rfl (fun c_12 => ?_) (fun c_12 => ?_)
    ·
      refine r_aload_n X eX1_compare_28 rfl ?_
      refine gf_X1_25 X eX1_compare_29 (by omega) ho ?_
      refine r_if_eq (tgt := 43) X eX1_compare_32 (by decide) (nI_toInt (by omega)) (fun c_13 => ?_) (fun c_13 => ?_)
      ·
        refine r_aload_n X eX1_compare_43 rfl ?_
        refine r_iload_n X eX1_compare_44 rfl ?_
        refine pf_X1_56 X eX1_compare_45 (by omega) ho (fun w14 n14_w14 uu14 => ?_)
        have fr_w14 : ∀ j, (j < ko ∨ ko + 1 ≤ j) → w14 j = w j := fun j hj => (uu14 j (by omega)).trans (fr_w j hj)
        refine r_aload_n X eX1_compare_48 rfl ?_
        refine r_iload_n X eX1_compare_49 rfl ?_
        refine pf_X1_59 X eX1_compare_50 (by omega) n14_w14 (fun w15 n15_w15 uu15 => ?_)
        have fr_w15 : ∀ j, (j < ko ∨ ko + 1 ≤ j) → w15 j = w j := fun j hj => (uu15 j (by omega)).trans (fr_w14 j hj)
        refine r_aload_n X eX1_compare_53 rfl ?_
        refine r_iload_n X eX1_compare_54 rfl ?_
        refine pf_X1_62 X eX1_compare_55 (by omega) n15_w15 (fun w16 n16_w16 uu16 => ?_)
        have fr_w16 : ∀ j, (j < ko ∨ ko + 1 ≤ j) → w16 j = w j := fun j hj => (uu16 j (by omega)).trans (fr_w15 j hj)
        refine r_aload_n X eX1_compare_58 rfl ?_
        refine r_iconst X eX1_compare_59 (nI 1) (by decide) ?_
        refine pf_X1_25 X eX1_compare_60 (by omega) n16_w16 (fun w17 n17_w17 uu17 => ?_)
        have fr_w17 : ∀ j, (j < ko ∨ ko + 1 ≤ j) → w17 j = w j := fun j hj => (uu17 j (by omega)).trans (fr_w16 j hj)
        exact ret _ _ _ _ eX1_compare_63 (⟨(n17_w17).trans (congrArg (osF b ko) (show (c, o, kp, 1) = cmpS ac o c kp by rw [cmpS, if_neg (fun q => c_12 (congrArg Int32.toInt q.2)), if_pos (Or.inl (by omega))])), fr_w17⟩)
      ·
        refine r_iload_n X eX1_compare_35 rfl ?_
        refine r_aload_n X eX1_compare_36 rfl ?_
        refine gf_X1_56 X eX1_compare_37 (by omega) ho ?_
        refine r_icmp_ge (tgt := 63) X eX1_compare_40 (by decide) rfl rfl (fun c_18 => ?_) (fun c_18 => ?_)
        ·
          exact ret _ _ _ _ eX1_compare_63 (⟨(ho).trans (congrArg (osF b ko) (show ac = cmpS ac o c kp by rw [cmpS, if_neg (fun q => c_12 (congrArg Int32.toInt q.2)), if_neg (fun q => q.elim (fun z => by omega) (fun z => by have := Int32.lt_iff_toInt_lt.mp z; omega))])), fr_w⟩)
        ·
          refine r_aload_n X eX1_compare_43 rfl ?_
          refine r_iload_n X eX1_compare_44 rfl ?_
          refine pf_X1_56 X eX1_compare_45 (by omega) ho (fun w19 n19_w19 uu19 => ?_)
          have fr_w19 : ∀ j, (j < ko ∨ ko + 1 ≤ j) → w19 j = w j := fun j hj => (uu19 j (by omega)).trans (fr_w j hj)
          refine r_aload_n X eX1_compare_48 rfl ?_
          refine r_iload_n X eX1_compare_49 rfl ?_
          refine pf_X1_59 X eX1_compare_50 (by omega) n19_w19 (fun w20 n20_w20 uu20 => ?_)
          have fr_w20 : ∀ j, (j < ko ∨ ko + 1 ≤ j) → w20 j = w j := fun j hj => (uu20 j (by omega)).trans (fr_w19 j hj)
          refine r_aload_n X eX1_compare_53 rfl ?_
          refine r_iload_n X eX1_compare_54 rfl ?_
          refine pf_X1_62 X eX1_compare_55 (by omega) n20_w20 (fun w21 n21_w21 uu21 => ?_)
          have fr_w21 : ∀ j, (j < ko ∨ ko + 1 ≤ j) → w21 j = w j := fun j hj => (uu21 j (by omega)).trans (fr_w20 j hj)
          refine r_aload_n X eX1_compare_58 rfl ?_
          refine r_iconst X eX1_compare_59 (nI 1) (by decide) ?_
          refine pf_X1_25 X eX1_compare_60 (by omega) n21_w21 (fun w22 n22_w22 uu22 => ?_)
          have fr_w22 : ∀ j, (j < ko ∨ ko + 1 ≤ j) → w22 j = w j := fun j hj => (uu22 j (by omega)).trans (fr_w21 j hj)
          exact ret _ _ _ _ eX1_compare_63 (⟨(n22_w22).trans (congrArg (osF b ko) (show (c, o, kp, 1) = cmpS ac o c kp by rw [cmpS, if_neg (fun q => c_12 (congrArg Int32.toInt q.2)), if_pos (Or.inr (Int32.lt_iff_toInt_lt.mpr c_18))])), fr_w22⟩)
    ·
      refine r_aload_n X eX1_compare_15 rfl ?_
      refine r_dup X eX1_compare_16 rfl ?_
      refine gf_X1_25 X eX1_compare_17 (by omega) ho ?_
      refine r_iconst X eX1_compare_20 (nI 1) (by decide) ?_
      refine r_iadd X eX1_compare_21 (nI (ac.2.2.2 + 1)) (addN (by omega)) ?_
      refine pf_X1_25 X eX1_compare_22 (by omega) ho (fun w23 n23_w23 uu23 => ?_)
      have fr_w23 : ∀ j, (j < ko ∨ ko + 1 ≤ j) → w23 j = w j := fun j hj => (uu23 j (by omega)).trans (fr_w j hj)
      refine r_goto (tgt := 63) X eX1_compare_25 (by decide) ?_
      exact ret _ _ _ _ eX1_compare_63 (⟨(n23_w23).trans (congrArg (osF b ko) (show (ac.1, ac.2.1, ac.2.2.1, ac.2.2.2 + 1) = cmpS ac o c kp by rw [cmpS, if_pos ⟨by omega, Int32.toInt_inj.mp c_12⟩])), fr_w23⟩)
set_option maxHeartbeats 8000000 in
set_option maxRecDepth 100000 in
theorem c_X1_tryOrders (G : Gs) (b N : Nat) : ∀ (n : Nat) (l : Launch) (w : Wd) (ko : Nat) (hko : ko + 27 ≤ N) (ac : Acc) (d a e : Nat) (pre : List Nat) (cs kp : Int32) (lw : Nat) (P : Pc) (hn : a + e = n) (hd : pre.length = d) (hdn : d + n ≤ 6) (hpre : ∀ x ∈ pre, x < 2) (ho : w ko = osF b ko ac) (hos : osW G b w ko) (hp : isP G b w (ko + 3 * d + 2) lw P) (ha : a + 2 ≤ P.1) (he : e + 2 ≤ P.2.1) (hcn : ac.2.2.2 + 2 ^ n ≤ 2 ^ 19), CV l yX1_tryOrders cX1_tryOrders 10 (5 + n) G b N w [.ref (b + ko), .int (nI d), .int (nI a), .int (nI e), .int (nI (enc pre)), .int cs, .int kp] (fun w2 => w2 ko = osF b ko (trS lw n a e pre cs kp P ac) ∧ osW G b w2 ko ∧ ∀ j, (j < ko ∨ (ko + 1 ≤ j ∧ j < ko + 3 * d + 5) ∨ ko + 27 ≤ j) → w2 j = w j) := by
  intro n
  induction n with
  | zero =>
    intro l w ko hko ac d a e pre cs kp lw P hn hd hdn hpre ho hos hp ha he hcn
    obtain ⟨rfl, rfl⟩ : a = 0 ∧ e = 0 := by omega
    have h1n : (2 : Nat) ^ 0 = 1 := rfl
    refine CV_of (L0 := [some (.ref (b + ko)), some (.int (nI d)), some (.int (nI 0)), some (.int (nI 0)), some (.int (nI (enc pre))), some (.int cs), some (.int kp), none, none, none]) (by decide) rfl (by simp [Value.category]) rfl (Nat.le_of_ble_eq_true rfl) (fun κ X ret => ?_)
    refine r_iload_n X eX1_tryOrders_0 rfl ?_
    refine r_if_ne (tgt := 19) X eX1_tryOrders_1 (by decide) (nI_toInt (by omega)) (fun c_1 => absurd c_1 (by omega)) (fun c_1 => ?_)
    refine r_iload_n X eX1_tryOrders_4 rfl ?_
    refine r_if_ne (tgt := 19) X eX1_tryOrders_5 (by decide) (nI_toInt (by omega)) (fun c_2 => absurd c_2 (by omega)) (fun c_2 => ?_)
    refine r_aload_n X eX1_tryOrders_8 rfl ?_
    refine r_iload X eX1_tryOrders_9 rfl ?_
    refine r_iload X eX1_tryOrders_11 rfl ?_
    refine r_iload X eX1_tryOrders_13 rfl ?_
    refine cv_X1_37 X eX1_tryOrders_15 (c_X1_compare _ G b N w ko hko ac (by omega) ho pre cs kp) (by omega) (by omega) ho rfl (Nat.le_of_ble_eq_true rfl) (fun w3 hp3 => ?_)
    obtain ⟨ho2, g3⟩ := hp3
    have m4_w3 : w3 ko = .inr (1, [.int ((cmpS ac pre cs kp).1), .int (nI (enc (cmpS ac pre cs kp).2.1)), .int ((cmpS ac pre cs kp).2.2.1), .int (nI ((cmpS ac pre cs kp).2.2.2)), .ref (b + (ko + 1)), .ref (b + (ko + 23))]) := ho2
    exact ret _ _ _ _ eX1_tryOrders_18 (⟨ho2, ⟨(g3 _ (by omega)).trans hos.1, all_fr hos.2.1 (fun j h1 h2 => g3 j (by omega)), hos.2.2.imp (fun _ h => h.imp (fun _ h => h.imp (fun _ h => h.imp (fun _ h => h.imp (fun _ h => h.fr (fun j h1 h2 => g3 j (by omega)))))))⟩, fun j hj => g3 j (by omega)⟩)
  | succ n ih =>
    intro l w ko hko ac d a e pre cs kp lw P hn hd hdn hpre ho hos hp ha he hcn
    obtain ⟨har0, hall0, wyi, tti, pli, cei, goi, hsm0⟩ := hos
    have hsmo := hsm0.1
    have hall1 := hall0
    have hsm1 := hsm0
    obtain ⟨kn, hkn⟩ : ∃ kn, kn = ko + 3 * (d + 1) + 2 := ⟨_, rfl⟩
    obtain ⟨kd, hkd⟩ : ∃ kd, kd = ko + 3 * d + 2 := ⟨_, rfl⟩
    rw [← hkd] at hp
    have hpd0 := hp
    have hpd1 := hp
    have h2n : (2 : Nat) ^ (n + 1) = 2 ^ n * 2 := Nat.pow_succ 2 n
    have hpw : 1 ≤ 2 ^ n := Nat.one_le_two_pow
    rcases (show (0 < a ∧ 0 < e) ∨ (0 < a ∧ e = 0) ∨ (a = 0 ∧ 0 < e) by omega) with ⟨ha0, he0⟩ | ⟨ha0, rfl⟩ | ⟨rfl, he0⟩
    ·
      refine CV_of (L0 := [some (.ref (b + ko)), some (.int (nI d)), some (.int (nI a)), some (.int (nI e)), some (.int (nI (enc pre))), some (.int cs), some (.int kp), none, none, none]) (by decide) rfl (by simp [Value.category]) rfl (Nat.le_of_ble_eq_true rfl) (fun κ X ret => ?_)
      have fr_w : ∀ j, (j < ko ∨ (ko + 1 ≤ j ∧ j < ko + 3 * d + 5) ∨ ko + 27 ≤ j) → w j = w j := fun _ _ => rfl
      refine r_iload_n X eX1_tryOrders_0 rfl ?_
      refine r_if_ne (tgt := 19) X eX1_tryOrders_1 (by decide) (nI_toInt (by omega)) (fun c_1 => ?_) (fun c_1 => absurd c_1 (by omega))
      refine r_iload_n X eX1_tryOrders_19 rfl ?_
      refine r_bipush X eX1_tryOrders_20 (nI 6) (by decide) ?_
      refine r_icmp_lt (tgt := 26) X eX1_tryOrders_22 (by decide) (nI_toInt (by omega)) (nI_toInt (by omega)) (fun c_2 => ?_) (fun c_2 => absurd c_2 (by omega))
      refine r_aload_n X eX1_tryOrders_26 rfl ?_
      refine gf_X1_11 X eX1_tryOrders_27 (by omega) ho ?_
      refine r_iload_n X eX1_tryOrders_30 rfl ?_
      refine r_iconst X eX1_tryOrders_31 (nI 1) (by decide) ?_
      refine r_iadd X eX1_tryOrders_32 (nI (d + 1)) (addN (by omega)) ?_
      refine r_aald (a := b + kn) X eX1_tryOrders_33 (by omega) har0 (by omega) (by decide) (by rw [hkn]) ?_
      refine r_astore X eX1_tryOrders_34 (Nat.le_of_ble_eq_true rfl) (L2 := [some (.ref (b + ko)), some (.int (nI d)), some (.int (nI a)), some (.int (nI e)), some (.int (nI (enc pre))), some (.int cs), some (.int kp), some (.ref (b + kn)), none, none]) rfl ?_
      refine r_iconst X eX1_tryOrders_36 (nI 0) (by decide) ?_
      refine r_istore X eX1_tryOrders_37 (Nat.le_of_ble_eq_true rfl) (L2 := [some (.ref (b + ko)), some (.int (nI d)), some (.int (nI a)), some (.int (nI e)), some (.int (nI (enc pre))), some (.int cs), some (.int kp), some (.ref (b + kn)), some (.int (nI 0)), none]) rfl ?_
      refine r_iload X eX1_tryOrders_39 rfl ?_
      refine r_iconst X eX1_tryOrders_41 (nI 1) (by decide) ?_
      refine r_icmp_gt (tgt := 145) X eX1_tryOrders_42 (by decide) (nI_toInt (by omega)) (nI_toInt (by omega)) (fun c_3 => absurd c_3 (by omega)) (fun c_3 => ?_)
      refine r_iload X eX1_tryOrders_45 rfl ?_
      refine r_if_ne (tgt := 54) X eX1_tryOrders_47 (by decide) (nI_toInt (by omega)) (fun c_4 => absurd c_4 (by omega)) (fun c_4 => ?_)
      refine r_iload_n X eX1_tryOrders_50 rfl ?_
      refine r_goto (tgt := 55) X eX1_tryOrders_51 (by decide) ?_
      refine r_if_le (tgt := 139) X eX1_tryOrders_55 (by decide) (nI_toInt (by omega)) (fun c_5 => absurd c_5 (by omega)) (fun c_5 => ?_)
      refine r_aload X eX1_tryOrders_58 rfl ?_
      refine r_aload_n X eX1_tryOrders_60 rfl ?_
      refine gf_X1_11 X eX1_tryOrders_61 (by omega) ho ?_
      refine r_iload_n X eX1_tryOrders_64 rfl ?_
      refine r_aald (a := b + kd) X eX1_tryOrders_65 (by omega) har0 (by omega) (by decide) (by rw [hkd]) ?_
      obtain ⟨lwn0, Pn0, hpn0⟩ := hall0 (d + 1) (by omega)
      rw [← hkn] at hpn0
      refine cv_X1_29 X eX1_tryOrders_66 (p_copyFrom _ G b N w kn (by omega) lwn0 Pn0 hpn0 kd (by omega) (by omega) lw P hpd0) (by omega) (by omega) hpn0.obj rfl (Nat.le_of_ble_eq_true rfl) (fun w6 hp6 => ?_)
      obtain ⟨hq0, g6⟩ := hp6
      have ho_w6 := (g6 ko (by omega)).trans ho
      have har0_w6 := (g6 (ko + 1) (by omega)).trans har0
      have hsmo_w6 := (g6 (ko + 23) (by omega)).trans hsmo
      have m7_w6 : w6 kn = .inr (3, [.int (nI P.1), .int (nI P.2.1), .int (nI lw), .ref (b + (kn + 1)), .ref (b + (kn + 2))]) := hq0.obj
      have fr_w6 : ∀ j, (j < ko ∨ (ko + 1 ≤ j ∧ j < ko + 3 * d + 5) ∨ ko + 27 ≤ j) → w6 j = w j := fun j hj => (g6 j (by omega)).trans (fr_w j hj)
      have hpe0 := hpd0.fr (fun j h1 h2 => g6 j (by omega))
      have hale0 := all_set hall0 hkn hq0 (fun j hj => g6 j hj)
      have hsme0 := hsm0.fr (fun j h1 h2 => g6 j (by omega))
      refine r_aload_n X eX1_tryOrders_69 rfl ?_
      refine gf_X1_21 X eX1_tryOrders_70 (by omega) ho_w6 ?_
      refine r_aload X eX1_tryOrders_73 rfl ?_
      refine r_iload X eX1_tryOrders_75 rfl ?_
      refine cv_X1_41 X eX1_tryOrders_77 (p_findLeast _ G b N w6 (ko + 23) (by omega) _ _ _ _ _ hsme0 kn (by omega) (by omega) lw P hq0 0 (by omega)) (by omega) (by omega) hsmo_w6 rfl (Nat.le_of_ble_eq_true rfl) (fun w8 hp8 => ?_)
      obtain ⟨plf0, cef0, gof0, hsmf0, hokf0, g8⟩ := hp8
      have ho_w8 := (g8 ko (by omega)).trans ho_w6
      have har0_w8 := (g8 (ko + 1) (by omega)).trans har0_w6
      have m7_w8 := (g8 kn (by omega)).trans m7_w6
      have m9_w8 : w8 (ko + 23) = .inr (4, [.int (nI 0), .int (tA lw P 0), .ref (b + (ko + 24)), .ref (b + (ko + 25)), .ref (b + (ko + 26))]) := hsmf0.1
      have fr_w8 : ∀ j, (j < ko ∨ (ko + 1 ≤ j ∧ j < ko + 3 * d + 5) ∨ ko + 27 ≤ j) → w8 j = w j := fun j hj => (g8 j (by omega)).trans (fr_w6 j hj)
      have hqf0 := hq0.fr (fun j h1 h2 => g8 j (by omega))
      have hpf0 := hpe0.fr (fun j h1 h2 => g8 j (by omega))
      have half0 := all_fr hale0 (fun j h1 h2 => g8 j (by omega))
      refine r_iload X eX1_tryOrders_80 rfl ?_
      refine r_aload X eX1_tryOrders_82 rfl ?_
      refine r_aload_n X eX1_tryOrders_84 rfl ?_
      refine gf_X1_21 X eX1_tryOrders_85 (by omega) ho_w8 ?_
      refine cp_X1_45 X eX1_tryOrders_88 (p_kept _ G b N w8 kn (by omega) lw P hqf0 (ko + 23) 0 (by omega) (by omega) (by omega) _ _ _ _ hsmf0 hokf0) (by omega) (by omega) m7_w8 rfl (Nat.le_of_ble_eq_true rfl) ?_
      refine r_iadd X eX1_tryOrders_91 (kp + (kA lw P 0)) rfl ?_
      refine r_istore X eX1_tryOrders_92 (Nat.le_of_ble_eq_true rfl) (L2 := [some (.ref (b + ko)), some (.int (nI d)), some (.int (nI a)), some (.int (nI e)), some (.int (nI (enc pre))), some (.int cs), some (.int kp), some (.ref (b + kn)), some (.int (nI 0)), some (.int (kp + (kA lw P 0)))]) rfl ?_
      refine r_aload X eX1_tryOrders_94 rfl ?_
      refine r_aload_n X eX1_tryOrders_96 rfl ?_
      refine gf_X1_21 X eX1_tryOrders_97 (by omega) ho_w8 ?_
      refine cv_X1_49 X eX1_tryOrders_100 (p_takeOut _ G b N w8 kn (by omega) lw P hqf0 (ko + 23) 0 (by omega) (by omega) (by omega) _ _ _ _ hsmf0 hokf0 (show 2 < P.1 by omega)) (by omega) (by omega) m7_w8 rfl (Nat.le_of_ble_eq_true rfl) (fun w10 hp10 => ?_)
      obtain ⟨hqg0, g10⟩ := hp10
      have ho_w10 := (g10 ko (by omega)).trans ho_w8
      have har0_w10 := (g10 (ko + 1) (by omega)).trans har0_w8
      have m9_w10 := (g10 (ko + 23) (by omega)).trans m9_w8
      have m11_w10 : w10 kn = .inr (3, [.int (nI ((cutP lw P 0).1)), .int (nI ((cutP lw P 0).2.1)), .int (nI lw), .ref (b + (kn + 1)), .ref (b + (kn + 2))]) := hqg0.obj
      have fr_w10 : ∀ j, (j < ko ∨ (ko + 1 ≤ j ∧ j < ko + 3 * d + 5) ∨ ko + 27 ≤ j) → w10 j = w j := fun j hj => (g10 j (by omega)).trans (fr_w8 j hj)
      have hpg0 := hpf0.fr (fun j h1 h2 => g10 j (by omega))
      have halg0 := all_set half0 hkn hqg0 (fun j hj => g10 j hj)
      have hsmg0 := hsmf0.fr (fun j h1 h2 => g10 j (by omega))
      refine r_aload_n X eX1_tryOrders_103 rfl ?_
      refine r_iload_n X eX1_tryOrders_104 rfl ?_
      refine r_iconst X eX1_tryOrders_105 (nI 1) (by decide) ?_
      refine r_iadd X eX1_tryOrders_106 (nI (d + 1)) (addN (by omega)) ?_
      refine r_iload_n X eX1_tryOrders_107 rfl ?_
      refine r_iconst X eX1_tryOrders_108 (nI 1) (by decide) ?_
      refine r_iload X eX1_tryOrders_109 rfl ?_
      refine r_isub X eX1_tryOrders_111 (nI (1 - 0)) (pk_sub (by omega)) ?_
      refine r_isub X eX1_tryOrders_112 (nI (a - (1 - 0))) (pk_sub (by omega)) ?_
      refine r_iload_n X eX1_tryOrders_113 rfl ?_
      refine r_iload X eX1_tryOrders_114 rfl ?_
      refine r_isub X eX1_tryOrders_116 (nI (e - 0)) (pk_sub (by omega)) ?_
      refine r_iload X eX1_tryOrders_117 rfl ?_
      refine r_iload X eX1_tryOrders_119 rfl ?_
      refine r_iload_n X eX1_tryOrders_121 rfl ?_
      refine r_ishl X eX1_tryOrders_122 ((nI 0) <<< ((nI d) &&& 31)) rfl ?_
      refine r_ior X eX1_tryOrders_123 (nI (enc (pre ++ [0]))) (enc_or hd hpre (by omega) (by omega)) ?_
      refine r_iload X eX1_tryOrders_124 rfl ?_
      refine r_aload_n X eX1_tryOrders_126 rfl ?_
      refine gf_X1_21 X eX1_tryOrders_127 (by omega) ho_w10 ?_
      refine gf_X1_53 X eX1_tryOrders_130 (by omega) m9_w10 ?_
      refine r_iadd X eX1_tryOrders_133 (cs + (tA lw P 0)) rfl ?_
      refine r_iload X eX1_tryOrders_134 rfl ?_
      refine cv_X1_33 X eX1_tryOrders_136 (ih _ w10 ko hko ac (d + 1) (a - (1 - 0)) (e - 0) (pre ++ [0]) (cs + tA lw P 0) (kp + kA lw P 0) lw (cutP lw P 0) (by omega) (by rw [List.length_append, hd]; rfl) (by omega) (pre_st hpre (by omega)) ho_w10 ⟨har0_w10, halg0, ⟨_, _, _, _, _, hsmg0⟩⟩ (hkn ▸ hqg0) (show a - (1 - 0) + 2 ≤ P.1 - (1 - 0) by omega) (show e - 0 + 2 ≤ P.2.1 - 0 by omega) (by omega)) (by omega) (by omega) ho_w10 rfl (Nat.le_of_ble_eq_true rfl) (fun w12 hp12 => ?_)
      obtain ⟨ho0, ⟨har0, hals0, wyr0, ttr0, plr0, cer0, gor0, hsmr0⟩, g12⟩ := hp12
      have m13_w12 : w12 ko = .inr (1, [.int ((trS lw n (a - (1 - 0)) (e - 0) (pre ++ [0]) (cs + tA lw P 0) (kp + kA lw P 0) (cutP lw P 0) ac).1), .int (nI (enc (trS lw n (a - (1 - 0)) (e - 0) (pre ++ [0]) (cs + tA lw P 0) (kp + kA lw P 0) (cutP lw P 0) ac).2.1)), .int ((trS lw n (a - (1 - 0)) (e - 0) (pre ++ [0]) (cs + tA lw P 0) (kp + kA lw P 0) (cutP lw P 0) ac).2.2.1), .int (nI ((trS lw n (a - (1 - 0)) (e - 0) (pre ++ [0]) (cs + tA lw P 0) (kp + kA lw P 0) (cutP lw P 0) ac).2.2.2)), .ref (b + (ko + 1)), .ref (b + (ko + 23))]) := ho0
      have m14_w12 : w12 (ko + 1) = aP G 7 (fun i => some (b + (ko + 3 * i + 2))) := har0
      have m15_w12 : w12 (ko + 23) = .inr (4, [.int (nI wyr0), .int ttr0, .ref (b + (ko + 24)), .ref (b + (ko + 25)), .ref (b + (ko + 26))]) := hsmr0.1
      have fr_w12 : ∀ j, (j < ko ∨ (ko + 1 ≤ j ∧ j < ko + 3 * d + 5) ∨ ko + 27 ≤ j) → w12 j = w j := fun j hj => (g12 j (by omega)).trans (fr_w10 j hj)
      have hpd1 := hpg0.fr (fun j h1 h2 => g12 j (by omega))
      have hall1 := hals0
      have hsm1 := hsmr0
      refine r_iinc X eX1_tryOrders_139 rfl (nI 1) (inc_nI _) (L2 := [some (.ref (b + ko)), some (.int (nI d)), some (.int (nI a)), some (.int (nI e)), some (.int (nI (enc pre))), some (.int cs), some (.int kp), some (.ref (b + kn)), some (.int (nI 1)), some (.int (kp + (kA lw P 0)))]) rfl ?_
      refine r_goto (tgt := 39) X eX1_tryOrders_142 (by decide) ?_
      refine r_iload X eX1_tryOrders_39 rfl ?_
      refine r_iconst X eX1_tryOrders_41 (nI 1) (by decide) ?_
      refine r_icmp_gt (tgt := 145) X eX1_tryOrders_42 (by decide) (nI_toInt (by omega)) (nI_toInt (by omega)) (fun c_16 => absurd c_16 (by omega)) (fun c_16 => ?_)
      refine r_iload X eX1_tryOrders_45 rfl ?_
      refine r_if_ne (tgt := 54) X eX1_tryOrders_47 (by decide) (nI_toInt (by omega)) (fun c_17 => ?_) (fun c_17 => absurd c_17 (by omega))
      refine r_iload_n X eX1_tryOrders_54 rfl ?_
      refine r_if_le (tgt := 139) X eX1_tryOrders_55 (by decide) (nI_toInt (by omega)) (fun c_18 => absurd c_18 (by omega)) (fun c_18 => ?_)
      refine r_aload X eX1_tryOrders_58 rfl ?_
      refine r_aload_n X eX1_tryOrders_60 rfl ?_
      refine gf_X1_11 X eX1_tryOrders_61 (by omega) m13_w12 ?_
      refine r_iload_n X eX1_tryOrders_64 rfl ?_
      refine r_aald (a := b + kd) X eX1_tryOrders_65 (by omega) m14_w12 (by omega) (by decide) (by rw [hkd]) ?_
      obtain ⟨lwn1, Pn1, hpn1⟩ := hall1 (d + 1) (by omega)
      rw [← hkn] at hpn1
      refine cv_X1_29 X eX1_tryOrders_66 (p_copyFrom _ G b N w12 kn (by omega) lwn1 Pn1 hpn1 kd (by omega) (by omega) lw P hpd1) (by omega) (by omega) hpn1.obj rfl (Nat.le_of_ble_eq_true rfl) (fun w19 hp19 => ?_)
      obtain ⟨hq1, g19⟩ := hp19
      have m13_w19 := (g19 ko (by omega)).trans m13_w12
      have m14_w19 := (g19 (ko + 1) (by omega)).trans m14_w12
      have m15_w19 := (g19 (ko + 23) (by omega)).trans m15_w12
      have m20_w19 : w19 kn = .inr (3, [.int (nI P.1), .int (nI P.2.1), .int (nI lw), .ref (b + (kn + 1)), .ref (b + (kn + 2))]) := hq1.obj
      have fr_w19 : ∀ j, (j < ko ∨ (ko + 1 ≤ j ∧ j < ko + 3 * d + 5) ∨ ko + 27 ≤ j) → w19 j = w j := fun j hj => (g19 j (by omega)).trans (fr_w12 j hj)
      have hpe1 := hpd1.fr (fun j h1 h2 => g19 j (by omega))
      have hale1 := all_set hall1 hkn hq1 (fun j hj => g19 j hj)
      have hsme1 := hsm1.fr (fun j h1 h2 => g19 j (by omega))
      refine r_aload_n X eX1_tryOrders_69 rfl ?_
      refine gf_X1_21 X eX1_tryOrders_70 (by omega) m13_w19 ?_
      refine r_aload X eX1_tryOrders_73 rfl ?_
      refine r_iload X eX1_tryOrders_75 rfl ?_
      refine cv_X1_41 X eX1_tryOrders_77 (p_findLeast _ G b N w19 (ko + 23) (by omega) _ _ _ _ _ hsme1 kn (by omega) (by omega) lw P hq1 1 (by omega)) (by omega) (by omega) m15_w19 rfl (Nat.le_of_ble_eq_true rfl) (fun w21 hp21 => ?_)
      obtain ⟨plf1, cef1, gof1, hsmf1, hokf1, g21⟩ := hp21
      have m13_w21 := (g21 ko (by omega)).trans m13_w19
      have m14_w21 := (g21 (ko + 1) (by omega)).trans m14_w19
      have m20_w21 := (g21 kn (by omega)).trans m20_w19
      have m22_w21 : w21 (ko + 23) = .inr (4, [.int (nI 1), .int (tA lw P 1), .ref (b + (ko + 24)), .ref (b + (ko + 25)), .ref (b + (ko + 26))]) := hsmf1.1
      have fr_w21 : ∀ j, (j < ko ∨ (ko + 1 ≤ j ∧ j < ko + 3 * d + 5) ∨ ko + 27 ≤ j) → w21 j = w j := fun j hj => (g21 j (by omega)).trans (fr_w19 j hj)
      have hqf1 := hq1.fr (fun j h1 h2 => g21 j (by omega))
      have hpf1 := hpe1.fr (fun j h1 h2 => g21 j (by omega))
      have half1 := all_fr hale1 (fun j h1 h2 => g21 j (by omega))
      refine r_iload X eX1_tryOrders_80 rfl ?_
      refine r_aload X eX1_tryOrders_82 rfl ?_
      refine r_aload_n X eX1_tryOrders_84 rfl ?_
      refine gf_X1_21 X eX1_tryOrders_85 (by omega) m13_w21 ?_
      refine cp_X1_45 X eX1_tryOrders_88 (p_kept _ G b N w21 kn (by omega) lw P hqf1 (ko + 23) 1 (by omega) (by omega) (by omega) _ _ _ _ hsmf1 hokf1) (by omega) (by omega) m20_w21 rfl (Nat.le_of_ble_eq_true rfl) ?_
      refine r_iadd X eX1_tryOrders_91 (kp + (kA lw P 1)) rfl ?_
      refine r_istore X eX1_tryOrders_92 (Nat.le_of_ble_eq_true rfl) (L2 := [some (.ref (b + ko)), some (.int (nI d)), some (.int (nI a)), some (.int (nI e)), some (.int (nI (enc pre))), some (.int cs), some (.int kp), some (.ref (b + kn)), some (.int (nI 1)), some (.int (kp + (kA lw P 1)))]) rfl ?_
      refine r_aload X eX1_tryOrders_94 rfl ?_
      refine r_aload_n X eX1_tryOrders_96 rfl ?_
      refine gf_X1_21 X eX1_tryOrders_97 (by omega) m13_w21 ?_
      refine cv_X1_49 X eX1_tryOrders_100 (p_takeOut _ G b N w21 kn (by omega) lw P hqf1 (ko + 23) 1 (by omega) (by omega) (by omega) _ _ _ _ hsmf1 hokf1 (show 2 < P.2.1 by omega)) (by omega) (by omega) m20_w21 rfl (Nat.le_of_ble_eq_true rfl) (fun w23 hp23 => ?_)
      obtain ⟨hqg1, g23⟩ := hp23
      have m13_w23 := (g23 ko (by omega)).trans m13_w21
      have m14_w23 := (g23 (ko + 1) (by omega)).trans m14_w21
      have m22_w23 := (g23 (ko + 23) (by omega)).trans m22_w21
      have m24_w23 : w23 kn = .inr (3, [.int (nI ((cutP lw P 1).1)), .int (nI ((cutP lw P 1).2.1)), .int (nI lw), .ref (b + (kn + 1)), .ref (b + (kn + 2))]) := hqg1.obj
      have fr_w23 : ∀ j, (j < ko ∨ (ko + 1 ≤ j ∧ j < ko + 3 * d + 5) ∨ ko + 27 ≤ j) → w23 j = w j := fun j hj => (g23 j (by omega)).trans (fr_w21 j hj)
      have hpg1 := hpf1.fr (fun j h1 h2 => g23 j (by omega))
      have halg1 := all_set half1 hkn hqg1 (fun j hj => g23 j hj)
      have hsmg1 := hsmf1.fr (fun j h1 h2 => g23 j (by omega))
      refine r_aload_n X eX1_tryOrders_103 rfl ?_
      refine r_iload_n X eX1_tryOrders_104 rfl ?_
      refine r_iconst X eX1_tryOrders_105 (nI 1) (by decide) ?_
      refine r_iadd X eX1_tryOrders_106 (nI (d + 1)) (addN (by omega)) ?_
      refine r_iload_n X eX1_tryOrders_107 rfl ?_
      refine r_iconst X eX1_tryOrders_108 (nI 1) (by decide) ?_
      refine r_iload X eX1_tryOrders_109 rfl ?_
      refine r_isub X eX1_tryOrders_111 (nI (1 - 1)) (pk_sub (by omega)) ?_
      refine r_isub X eX1_tryOrders_112 (nI (a - (1 - 1))) (pk_sub (by omega)) ?_
      refine r_iload_n X eX1_tryOrders_113 rfl ?_
      refine r_iload X eX1_tryOrders_114 rfl ?_
      refine r_isub X eX1_tryOrders_116 (nI (e - 1)) (pk_sub (by omega)) ?_
      refine r_iload X eX1_tryOrders_117 rfl ?_
      refine r_iload X eX1_tryOrders_119 rfl ?_
      refine r_iload_n X eX1_tryOrders_121 rfl ?_
      refine r_ishl X eX1_tryOrders_122 ((nI 1) <<< ((nI d) &&& 31)) rfl ?_
      refine r_ior X eX1_tryOrders_123 (nI (enc (pre ++ [1]))) (enc_or hd hpre (by omega) (by omega)) ?_
      refine r_iload X eX1_tryOrders_124 rfl ?_
      refine r_aload_n X eX1_tryOrders_126 rfl ?_
      refine gf_X1_21 X eX1_tryOrders_127 (by omega) m13_w23 ?_
      refine gf_X1_53 X eX1_tryOrders_130 (by omega) m22_w23 ?_
      refine r_iadd X eX1_tryOrders_133 (cs + (tA lw P 1)) rfl ?_
      refine r_iload X eX1_tryOrders_134 rfl ?_
      refine cv_X1_33 X eX1_tryOrders_136 (ih _ w23 ko hko (trS lw n (a - (1 - 0)) (e - 0) (pre ++ [0]) (cs + tA lw P 0) (kp + kA lw P 0) (cutP lw P 0) ac) (d + 1) (a - (1 - 1)) (e - 1) (pre ++ [1]) (cs + tA lw P 1) (kp + kA lw P 1) lw (cutP lw P 1) (by omega) (by rw [List.length_append, hd]; rfl) (by omega) (pre_st hpre (by omega)) m13_w23 ⟨m14_w23, halg1, ⟨_, _, _, _, _, hsmg1⟩⟩ (hkn ▸ hqg1) (show a - (1 - 1) + 2 ≤ P.1 - (1 - 1) by omega) (show e - 1 + 2 ≤ P.2.1 - 1 by omega) (by have hct := trS_cnt (lw := lw) n (a - (1 - 0)) (e - 0) (pre ++ [0]) (cs + tA lw P 0) (kp + kA lw P 0) (cutP lw P 0) ac; omega)) (by omega) (by omega) m13_w23 rfl (Nat.le_of_ble_eq_true rfl) (fun w25 hp25 => ?_)
      obtain ⟨ho1, ⟨har1, hals1, wyr1, ttr1, plr1, cer1, gor1, hsmr1⟩, g25⟩ := hp25
      have m26_w25 : w25 ko = .inr (1, [.int ((trS lw n (a - (1 - 1)) (e - 1) (pre ++ [1]) (cs + tA lw P 1) (kp + kA lw P 1) (cutP lw P 1) (trS lw n (a - (1 - 0)) (e - 0) (pre ++ [0]) (cs + tA lw P 0) (kp + kA lw P 0) (cutP lw P 0) ac)).1), .int (nI (enc (trS lw n (a - (1 - 1)) (e - 1) (pre ++ [1]) (cs + tA lw P 1) (kp + kA lw P 1) (cutP lw P 1) (trS lw n (a - (1 - 0)) (e - 0) (pre ++ [0]) (cs + tA lw P 0) (kp + kA lw P 0) (cutP lw P 0) ac)).2.1)), .int ((trS lw n (a - (1 - 1)) (e - 1) (pre ++ [1]) (cs + tA lw P 1) (kp + kA lw P 1) (cutP lw P 1) (trS lw n (a - (1 - 0)) (e - 0) (pre ++ [0]) (cs + tA lw P 0) (kp + kA lw P 0) (cutP lw P 0) ac)).2.2.1), .int (nI ((trS lw n (a - (1 - 1)) (e - 1) (pre ++ [1]) (cs + tA lw P 1) (kp + kA lw P 1) (cutP lw P 1) (trS lw n (a - (1 - 0)) (e - 0) (pre ++ [0]) (cs + tA lw P 0) (kp + kA lw P 0) (cutP lw P 0) ac)).2.2.2)), .ref (b + (ko + 1)), .ref (b + (ko + 23))]) := ho1
      have m27_w25 : w25 (ko + 1) = aP G 7 (fun i => some (b + (ko + 3 * i + 2))) := har1
      have m28_w25 : w25 (ko + 23) = .inr (4, [.int (nI wyr1), .int ttr1, .ref (b + (ko + 24)), .ref (b + (ko + 25)), .ref (b + (ko + 26))]) := hsmr1.1
      have fr_w25 : ∀ j, (j < ko ∨ (ko + 1 ≤ j ∧ j < ko + 3 * d + 5) ∨ ko + 27 ≤ j) → w25 j = w j := fun j hj => (g25 j (by omega)).trans (fr_w23 j hj)
      have hpd1 := hpg1.fr (fun j h1 h2 => g25 j (by omega))
      have hall1 := hals1
      have hsm1 := hsmr1
      refine r_iinc X eX1_tryOrders_139 rfl (nI 2) (inc_nI _) (L2 := [some (.ref (b + ko)), some (.int (nI d)), some (.int (nI a)), some (.int (nI e)), some (.int (nI (enc pre))), some (.int cs), some (.int kp), some (.ref (b + kn)), some (.int (nI 2)), some (.int (kp + (kA lw P 1)))]) rfl ?_
      refine r_goto (tgt := 39) X eX1_tryOrders_142 (by decide) ?_
      refine r_iload X eX1_tryOrders_39 rfl ?_
      refine r_iconst X eX1_tryOrders_41 (nI 1) (by decide) ?_
      refine r_icmp_gt (tgt := 145) X eX1_tryOrders_42 (by decide) (nI_toInt (by omega)) (nI_toInt (by omega)) (fun c_29 => ?_) (fun c_29 => absurd c_29 (by omega))
      exact ret _ _ _ _ eX1_tryOrders_145 (⟨(m26_w25).trans (congrArg (osF b ko) (trS_11 ha0 he0)), ⟨m27_w25, hall1, ⟨_, _, _, _, _, hsm1⟩⟩, fr_w25⟩)
    ·
      refine CV_of (L0 := [some (.ref (b + ko)), some (.int (nI d)), some (.int (nI a)), some (.int (nI 0)), some (.int (nI (enc pre))), some (.int cs), some (.int kp), none, none, none]) (by decide) rfl (by simp [Value.category]) rfl (Nat.le_of_ble_eq_true rfl) (fun κ X ret => ?_)
      have fr_w : ∀ j, (j < ko ∨ (ko + 1 ≤ j ∧ j < ko + 3 * d + 5) ∨ ko + 27 ≤ j) → w j = w j := fun _ _ => rfl
      refine r_iload_n X eX1_tryOrders_0 rfl ?_
      refine r_if_ne (tgt := 19) X eX1_tryOrders_1 (by decide) (nI_toInt (by omega)) (fun c_1 => ?_) (fun c_1 => absurd c_1 (by omega))
      refine r_iload_n X eX1_tryOrders_19 rfl ?_
      refine r_bipush X eX1_tryOrders_20 (nI 6) (by decide) ?_
      refine r_icmp_lt (tgt := 26) X eX1_tryOrders_22 (by decide) (nI_toInt (by omega)) (nI_toInt (by omega)) (fun c_2 => ?_) (fun c_2 => absurd c_2 (by omega))
      refine r_aload_n X eX1_tryOrders_26 rfl ?_
      refine gf_X1_11 X eX1_tryOrders_27 (by omega) ho ?_
      refine r_iload_n X eX1_tryOrders_30 rfl ?_
      refine r_iconst X eX1_tryOrders_31 (nI 1) (by decide) ?_
      refine r_iadd X eX1_tryOrders_32 (nI (d + 1)) (addN (by omega)) ?_
      refine r_aald (a := b + kn) X eX1_tryOrders_33 (by omega) har0 (by omega) (by decide) (by rw [hkn]) ?_
      refine r_astore X eX1_tryOrders_34 (Nat.le_of_ble_eq_true rfl) (L2 := [some (.ref (b + ko)), some (.int (nI d)), some (.int (nI a)), some (.int (nI 0)), some (.int (nI (enc pre))), some (.int cs), some (.int kp), some (.ref (b + kn)), none, none]) rfl ?_
      refine r_iconst X eX1_tryOrders_36 (nI 0) (by decide) ?_
      refine r_istore X eX1_tryOrders_37 (Nat.le_of_ble_eq_true rfl) (L2 := [some (.ref (b + ko)), some (.int (nI d)), some (.int (nI a)), some (.int (nI 0)), some (.int (nI (enc pre))), some (.int cs), some (.int kp), some (.ref (b + kn)), some (.int (nI 0)), none]) rfl ?_
      refine r_iload X eX1_tryOrders_39 rfl ?_
      refine r_iconst X eX1_tryOrders_41 (nI 1) (by decide) ?_
      refine r_icmp_gt (tgt := 145) X eX1_tryOrders_42 (by decide) (nI_toInt (by omega)) (nI_toInt (by omega)) (fun c_3 => absurd c_3 (by omega)) (fun c_3 => ?_)
      refine r_iload X eX1_tryOrders_45 rfl ?_
      refine r_if_ne (tgt := 54) X eX1_tryOrders_47 (by decide) (nI_toInt (by omega)) (fun c_4 => absurd c_4 (by omega)) (fun c_4 => ?_)
      refine r_iload_n X eX1_tryOrders_50 rfl ?_
      refine r_goto (tgt := 55) X eX1_tryOrders_51 (by decide) ?_
      refine r_if_le (tgt := 139) X eX1_tryOrders_55 (by decide) (nI_toInt (by omega)) (fun c_5 => absurd c_5 (by omega)) (fun c_5 => ?_)
      refine r_aload X eX1_tryOrders_58 rfl ?_
      refine r_aload_n X eX1_tryOrders_60 rfl ?_
      refine gf_X1_11 X eX1_tryOrders_61 (by omega) ho ?_
      refine r_iload_n X eX1_tryOrders_64 rfl ?_
      refine r_aald (a := b + kd) X eX1_tryOrders_65 (by omega) har0 (by omega) (by decide) (by rw [hkd]) ?_
      obtain ⟨lwn0, Pn0, hpn0⟩ := hall0 (d + 1) (by omega)
      rw [← hkn] at hpn0
      refine cv_X1_29 X eX1_tryOrders_66 (p_copyFrom _ G b N w kn (by omega) lwn0 Pn0 hpn0 kd (by omega) (by omega) lw P hpd0) (by omega) (by omega) hpn0.obj rfl (Nat.le_of_ble_eq_true rfl) (fun w6 hp6 => ?_)
      obtain ⟨hq0, g6⟩ := hp6
      have ho_w6 := (g6 ko (by omega)).trans ho
      have har0_w6 := (g6 (ko + 1) (by omega)).trans har0
      have hsmo_w6 := (g6 (ko + 23) (by omega)).trans hsmo
      have m7_w6 : w6 kn = .inr (3, [.int (nI P.1), .int (nI P.2.1), .int (nI lw), .ref (b + (kn + 1)), .ref (b + (kn + 2))]) := hq0.obj
      have fr_w6 : ∀ j, (j < ko ∨ (ko + 1 ≤ j ∧ j < ko + 3 * d + 5) ∨ ko + 27 ≤ j) → w6 j = w j := fun j hj => (g6 j (by omega)).trans (fr_w j hj)
      have hpe0 := hpd0.fr (fun j h1 h2 => g6 j (by omega))
      have hale0 := all_set hall0 hkn hq0 (fun j hj => g6 j hj)
      have hsme0 := hsm0.fr (fun j h1 h2 => g6 j (by omega))
      refine r_aload_n X eX1_tryOrders_69 rfl ?_
      refine gf_X1_21 X eX1_tryOrders_70 (by omega) ho_w6 ?_
      refine r_aload X eX1_tryOrders_73 rfl ?_
      refine r_iload X eX1_tryOrders_75 rfl ?_
      refine cv_X1_41 X eX1_tryOrders_77 (p_findLeast _ G b N w6 (ko + 23) (by omega) _ _ _ _ _ hsme0 kn (by omega) (by omega) lw P hq0 0 (by omega)) (by omega) (by omega) hsmo_w6 rfl (Nat.le_of_ble_eq_true rfl) (fun w8 hp8 => ?_)
      obtain ⟨plf0, cef0, gof0, hsmf0, hokf0, g8⟩ := hp8
      have ho_w8 := (g8 ko (by omega)).trans ho_w6
      have har0_w8 := (g8 (ko + 1) (by omega)).trans har0_w6
      have m7_w8 := (g8 kn (by omega)).trans m7_w6
      have m9_w8 : w8 (ko + 23) = .inr (4, [.int (nI 0), .int (tA lw P 0), .ref (b + (ko + 24)), .ref (b + (ko + 25)), .ref (b + (ko + 26))]) := hsmf0.1
      have fr_w8 : ∀ j, (j < ko ∨ (ko + 1 ≤ j ∧ j < ko + 3 * d + 5) ∨ ko + 27 ≤ j) → w8 j = w j := fun j hj => (g8 j (by omega)).trans (fr_w6 j hj)
      have hqf0 := hq0.fr (fun j h1 h2 => g8 j (by omega))
      have hpf0 := hpe0.fr (fun j h1 h2 => g8 j (by omega))
      have half0 := all_fr hale0 (fun j h1 h2 => g8 j (by omega))
      refine r_iload X eX1_tryOrders_80 rfl ?_
      refine r_aload X eX1_tryOrders_82 rfl ?_
      refine r_aload_n X eX1_tryOrders_84 rfl ?_
      refine gf_X1_21 X eX1_tryOrders_85 (by omega) ho_w8 ?_
      refine cp_X1_45 X eX1_tryOrders_88 (p_kept _ G b N w8 kn (by omega) lw P hqf0 (ko + 23) 0 (by omega) (by omega) (by omega) _ _ _ _ hsmf0 hokf0) (by omega) (by omega) m7_w8 rfl (Nat.le_of_ble_eq_true rfl) ?_
      refine r_iadd X eX1_tryOrders_91 (kp + (kA lw P 0)) rfl ?_
      refine r_istore X eX1_tryOrders_92 (Nat.le_of_ble_eq_true rfl) (L2 := [some (.ref (b + ko)), some (.int (nI d)), some (.int (nI a)), some (.int (nI 0)), some (.int (nI (enc pre))), some (.int cs), some (.int kp), some (.ref (b + kn)), some (.int (nI 0)), some (.int (kp + (kA lw P 0)))]) rfl ?_
      refine r_aload X eX1_tryOrders_94 rfl ?_
      refine r_aload_n X eX1_tryOrders_96 rfl ?_
      refine gf_X1_21 X eX1_tryOrders_97 (by omega) ho_w8 ?_
      refine cv_X1_49 X eX1_tryOrders_100 (p_takeOut _ G b N w8 kn (by omega) lw P hqf0 (ko + 23) 0 (by omega) (by omega) (by omega) _ _ _ _ hsmf0 hokf0 (show 2 < P.1 by omega)) (by omega) (by omega) m7_w8 rfl (Nat.le_of_ble_eq_true rfl) (fun w10 hp10 => ?_)
      obtain ⟨hqg0, g10⟩ := hp10
      have ho_w10 := (g10 ko (by omega)).trans ho_w8
      have har0_w10 := (g10 (ko + 1) (by omega)).trans har0_w8
      have m9_w10 := (g10 (ko + 23) (by omega)).trans m9_w8
      have m11_w10 : w10 kn = .inr (3, [.int (nI ((cutP lw P 0).1)), .int (nI ((cutP lw P 0).2.1)), .int (nI lw), .ref (b + (kn + 1)), .ref (b + (kn + 2))]) := hqg0.obj
      have fr_w10 : ∀ j, (j < ko ∨ (ko + 1 ≤ j ∧ j < ko + 3 * d + 5) ∨ ko + 27 ≤ j) → w10 j = w j := fun j hj => (g10 j (by omega)).trans (fr_w8 j hj)
      have hpg0 := hpf0.fr (fun j h1 h2 => g10 j (by omega))
      have halg0 := all_set half0 hkn hqg0 (fun j hj => g10 j hj)
      have hsmg0 := hsmf0.fr (fun j h1 h2 => g10 j (by omega))
      refine r_aload_n X eX1_tryOrders_103 rfl ?_
      refine r_iload_n X eX1_tryOrders_104 rfl ?_
      refine r_iconst X eX1_tryOrders_105 (nI 1) (by decide) ?_
      refine r_iadd X eX1_tryOrders_106 (nI (d + 1)) (addN (by omega)) ?_
      refine r_iload_n X eX1_tryOrders_107 rfl ?_
      refine r_iconst X eX1_tryOrders_108 (nI 1) (by decide) ?_
      refine r_iload X eX1_tryOrders_109 rfl ?_
      refine r_isub X eX1_tryOrders_111 (nI (1 - 0)) (pk_sub (by omega)) ?_
      refine r_isub X eX1_tryOrders_112 (nI (a - (1 - 0))) (pk_sub (by omega)) ?_
      refine r_iload_n X eX1_tryOrders_113 rfl ?_
      refine r_iload X eX1_tryOrders_114 rfl ?_
      refine r_isub X eX1_tryOrders_116 (nI (0 - 0)) (pk_sub (by omega)) ?_
      refine r_iload X eX1_tryOrders_117 rfl ?_
      refine r_iload X eX1_tryOrders_119 rfl ?_
      refine r_iload_n X eX1_tryOrders_121 rfl ?_
      refine r_ishl X eX1_tryOrders_122 ((nI 0) <<< ((nI d) &&& 31)) rfl ?_
      refine r_ior X eX1_tryOrders_123 (nI (enc (pre ++ [0]))) (enc_or hd hpre (by omega) (by omega)) ?_
      refine r_iload X eX1_tryOrders_124 rfl ?_
      refine r_aload_n X eX1_tryOrders_126 rfl ?_
      refine gf_X1_21 X eX1_tryOrders_127 (by omega) ho_w10 ?_
      refine gf_X1_53 X eX1_tryOrders_130 (by omega) m9_w10 ?_
      refine r_iadd X eX1_tryOrders_133 (cs + (tA lw P 0)) rfl ?_
      refine r_iload X eX1_tryOrders_134 rfl ?_
      refine cv_X1_33 X eX1_tryOrders_136 (ih _ w10 ko hko ac (d + 1) (a - (1 - 0)) (0 - 0) (pre ++ [0]) (cs + tA lw P 0) (kp + kA lw P 0) lw (cutP lw P 0) (by omega) (by rw [List.length_append, hd]; rfl) (by omega) (pre_st hpre (by omega)) ho_w10 ⟨har0_w10, halg0, ⟨_, _, _, _, _, hsmg0⟩⟩ (hkn ▸ hqg0) (show a - (1 - 0) + 2 ≤ P.1 - (1 - 0) by omega) (show 0 - 0 + 2 ≤ P.2.1 - 0 by omega) (by omega)) (by omega) (by omega) ho_w10 rfl (Nat.le_of_ble_eq_true rfl) (fun w12 hp12 => ?_)
      obtain ⟨ho0, ⟨har0, hals0, wyr0, ttr0, plr0, cer0, gor0, hsmr0⟩, g12⟩ := hp12
      have m13_w12 : w12 ko = .inr (1, [.int ((trS lw n (a - (1 - 0)) (0 - 0) (pre ++ [0]) (cs + tA lw P 0) (kp + kA lw P 0) (cutP lw P 0) ac).1), .int (nI (enc (trS lw n (a - (1 - 0)) (0 - 0) (pre ++ [0]) (cs + tA lw P 0) (kp + kA lw P 0) (cutP lw P 0) ac).2.1)), .int ((trS lw n (a - (1 - 0)) (0 - 0) (pre ++ [0]) (cs + tA lw P 0) (kp + kA lw P 0) (cutP lw P 0) ac).2.2.1), .int (nI ((trS lw n (a - (1 - 0)) (0 - 0) (pre ++ [0]) (cs + tA lw P 0) (kp + kA lw P 0) (cutP lw P 0) ac).2.2.2)), .ref (b + (ko + 1)), .ref (b + (ko + 23))]) := ho0
      have m14_w12 : w12 (ko + 1) = aP G 7 (fun i => some (b + (ko + 3 * i + 2))) := har0
      have m15_w12 : w12 (ko + 23) = .inr (4, [.int (nI wyr0), .int ttr0, .ref (b + (ko + 24)), .ref (b + (ko + 25)), .ref (b + (ko + 26))]) := hsmr0.1
      have fr_w12 : ∀ j, (j < ko ∨ (ko + 1 ≤ j ∧ j < ko + 3 * d + 5) ∨ ko + 27 ≤ j) → w12 j = w j := fun j hj => (g12 j (by omega)).trans (fr_w10 j hj)
      have hpd1 := hpg0.fr (fun j h1 h2 => g12 j (by omega))
      have hall1 := hals0
      have hsm1 := hsmr0
      refine r_iinc X eX1_tryOrders_139 rfl (nI 1) (inc_nI _) (L2 := [some (.ref (b + ko)), some (.int (nI d)), some (.int (nI a)), some (.int (nI 0)), some (.int (nI (enc pre))), some (.int cs), some (.int kp), some (.ref (b + kn)), some (.int (nI 1)), some (.int (kp + (kA lw P 0)))]) rfl ?_
      refine r_goto (tgt := 39) X eX1_tryOrders_142 (by decide) ?_
      refine r_iload X eX1_tryOrders_39 rfl ?_
      refine r_iconst X eX1_tryOrders_41 (nI 1) (by decide) ?_
      refine r_icmp_gt (tgt := 145) X eX1_tryOrders_42 (by decide) (nI_toInt (by omega)) (nI_toInt (by omega)) (fun c_16 => absurd c_16 (by omega)) (fun c_16 => ?_)
      refine r_iload X eX1_tryOrders_45 rfl ?_
      refine r_if_ne (tgt := 54) X eX1_tryOrders_47 (by decide) (nI_toInt (by omega)) (fun c_17 => ?_) (fun c_17 => absurd c_17 (by omega))
      refine r_iload_n X eX1_tryOrders_54 rfl ?_
      refine r_if_le (tgt := 139) X eX1_tryOrders_55 (by decide) (nI_toInt (by omega)) (fun c_18 => ?_) (fun c_18 => absurd c_18 (by omega))
      refine r_iinc X eX1_tryOrders_139 rfl (nI 2) (inc_nI _) (L2 := [some (.ref (b + ko)), some (.int (nI d)), some (.int (nI a)), some (.int (nI 0)), some (.int (nI (enc pre))), some (.int cs), some (.int kp), some (.ref (b + kn)), some (.int (nI 2)), some (.int (kp + (kA lw P 0)))]) rfl ?_
      refine r_goto (tgt := 39) X eX1_tryOrders_142 (by decide) ?_
      refine r_iload X eX1_tryOrders_39 rfl ?_
      refine r_iconst X eX1_tryOrders_41 (nI 1) (by decide) ?_
      refine r_icmp_gt (tgt := 145) X eX1_tryOrders_42 (by decide) (nI_toInt (by omega)) (nI_toInt (by omega)) (fun c_19 => ?_) (fun c_19 => absurd c_19 (by omega))
      exact ret _ _ _ _ eX1_tryOrders_145 (⟨(m13_w12).trans (congrArg (osF b ko) (trS_10 ha0)), ⟨m14_w12, hall1, ⟨_, _, _, _, _, hsm1⟩⟩, fr_w12⟩)
    ·
      refine CV_of (L0 := [some (.ref (b + ko)), some (.int (nI d)), some (.int (nI 0)), some (.int (nI e)), some (.int (nI (enc pre))), some (.int cs), some (.int kp), none, none, none]) (by decide) rfl (by simp [Value.category]) rfl (Nat.le_of_ble_eq_true rfl) (fun κ X ret => ?_)
      have fr_w : ∀ j, (j < ko ∨ (ko + 1 ≤ j ∧ j < ko + 3 * d + 5) ∨ ko + 27 ≤ j) → w j = w j := fun _ _ => rfl
      refine r_iload_n X eX1_tryOrders_0 rfl ?_
      refine r_if_ne (tgt := 19) X eX1_tryOrders_1 (by decide) (nI_toInt (by omega)) (fun c_1 => absurd c_1 (by omega)) (fun c_1 => ?_)
      refine r_iload_n X eX1_tryOrders_4 rfl ?_
      refine r_if_ne (tgt := 19) X eX1_tryOrders_5 (by decide) (nI_toInt (by omega)) (fun c_2 => ?_) (fun c_2 => absurd c_2 (by omega))
      refine r_iload_n X eX1_tryOrders_19 rfl ?_
      refine r_bipush X eX1_tryOrders_20 (nI 6) (by decide) ?_
      refine r_icmp_lt (tgt := 26) X eX1_tryOrders_22 (by decide) (nI_toInt (by omega)) (nI_toInt (by omega)) (fun c_3 => ?_) (fun c_3 => absurd c_3 (by omega))
      refine r_aload_n X eX1_tryOrders_26 rfl ?_
      refine gf_X1_11 X eX1_tryOrders_27 (by omega) ho ?_
      refine r_iload_n X eX1_tryOrders_30 rfl ?_
      refine r_iconst X eX1_tryOrders_31 (nI 1) (by decide) ?_
      refine r_iadd X eX1_tryOrders_32 (nI (d + 1)) (addN (by omega)) ?_
      refine r_aald (a := b + kn) X eX1_tryOrders_33 (by omega) har0 (by omega) (by decide) (by rw [hkn]) ?_
      refine r_astore X eX1_tryOrders_34 (Nat.le_of_ble_eq_true rfl) (L2 := [some (.ref (b + ko)), some (.int (nI d)), some (.int (nI 0)), some (.int (nI e)), some (.int (nI (enc pre))), some (.int cs), some (.int kp), some (.ref (b + kn)), none, none]) rfl ?_
      refine r_iconst X eX1_tryOrders_36 (nI 0) (by decide) ?_
      refine r_istore X eX1_tryOrders_37 (Nat.le_of_ble_eq_true rfl) (L2 := [some (.ref (b + ko)), some (.int (nI d)), some (.int (nI 0)), some (.int (nI e)), some (.int (nI (enc pre))), some (.int cs), some (.int kp), some (.ref (b + kn)), some (.int (nI 0)), none]) rfl ?_
      refine r_iload X eX1_tryOrders_39 rfl ?_
      refine r_iconst X eX1_tryOrders_41 (nI 1) (by decide) ?_
      refine r_icmp_gt (tgt := 145) X eX1_tryOrders_42 (by decide) (nI_toInt (by omega)) (nI_toInt (by omega)) (fun c_4 => absurd c_4 (by omega)) (fun c_4 => ?_)
      refine r_iload X eX1_tryOrders_45 rfl ?_
      refine r_if_ne (tgt := 54) X eX1_tryOrders_47 (by decide) (nI_toInt (by omega)) (fun c_5 => absurd c_5 (by omega)) (fun c_5 => ?_)
      refine r_iload_n X eX1_tryOrders_50 rfl ?_
      refine r_goto (tgt := 55) X eX1_tryOrders_51 (by decide) ?_
      refine r_if_le (tgt := 139) X eX1_tryOrders_55 (by decide) (nI_toInt (by omega)) (fun c_6 => ?_) (fun c_6 => absurd c_6 (by omega))
      refine r_iinc X eX1_tryOrders_139 rfl (nI 1) (inc_nI _) (L2 := [some (.ref (b + ko)), some (.int (nI d)), some (.int (nI 0)), some (.int (nI e)), some (.int (nI (enc pre))), some (.int cs), some (.int kp), some (.ref (b + kn)), some (.int (nI 1)), none]) rfl ?_
      refine r_goto (tgt := 39) X eX1_tryOrders_142 (by decide) ?_
      refine r_iload X eX1_tryOrders_39 rfl ?_
      refine r_iconst X eX1_tryOrders_41 (nI 1) (by decide) ?_
      refine r_icmp_gt (tgt := 145) X eX1_tryOrders_42 (by decide) (nI_toInt (by omega)) (nI_toInt (by omega)) (fun c_7 => absurd c_7 (by omega)) (fun c_7 => ?_)
      refine r_iload X eX1_tryOrders_45 rfl ?_
      refine r_if_ne (tgt := 54) X eX1_tryOrders_47 (by decide) (nI_toInt (by omega)) (fun c_8 => ?_) (fun c_8 => absurd c_8 (by omega))
      refine r_iload_n X eX1_tryOrders_54 rfl ?_
      refine r_if_le (tgt := 139) X eX1_tryOrders_55 (by decide) (nI_toInt (by omega)) (fun c_9 => absurd c_9 (by omega)) (fun c_9 => ?_)
      refine r_aload X eX1_tryOrders_58 rfl ?_
      refine r_aload_n X eX1_tryOrders_60 rfl ?_
      refine gf_X1_11 X eX1_tryOrders_61 (by omega) ho ?_
      refine r_iload_n X eX1_tryOrders_64 rfl ?_
      refine r_aald (a := b + kd) X eX1_tryOrders_65 (by omega) har0 (by omega) (by decide) (by rw [hkd]) ?_
      obtain ⟨lwn1, Pn1, hpn1⟩ := hall1 (d + 1) (by omega)
      rw [← hkn] at hpn1
      refine cv_X1_29 X eX1_tryOrders_66 (p_copyFrom _ G b N w kn (by omega) lwn1 Pn1 hpn1 kd (by omega) (by omega) lw P hpd1) (by omega) (by omega) hpn1.obj rfl (Nat.le_of_ble_eq_true rfl) (fun w10 hp10 => ?_)
      obtain ⟨hq1, g10⟩ := hp10
      have ho_w10 := (g10 ko (by omega)).trans ho
      have har0_w10 := (g10 (ko + 1) (by omega)).trans har0
      have hsmo_w10 := (g10 (ko + 23) (by omega)).trans hsmo
      have m11_w10 : w10 kn = .inr (3, [.int (nI P.1), .int (nI P.2.1), .int (nI lw), .ref (b + (kn + 1)), .ref (b + (kn + 2))]) := hq1.obj
      have fr_w10 : ∀ j, (j < ko ∨ (ko + 1 ≤ j ∧ j < ko + 3 * d + 5) ∨ ko + 27 ≤ j) → w10 j = w j := fun j hj => (g10 j (by omega)).trans (fr_w j hj)
      have hpe1 := hpd1.fr (fun j h1 h2 => g10 j (by omega))
      have hale1 := all_set hall1 hkn hq1 (fun j hj => g10 j hj)
      have hsme1 := hsm1.fr (fun j h1 h2 => g10 j (by omega))
      refine r_aload_n X eX1_tryOrders_69 rfl ?_
      refine gf_X1_21 X eX1_tryOrders_70 (by omega) ho_w10 ?_
      refine r_aload X eX1_tryOrders_73 rfl ?_
      refine r_iload X eX1_tryOrders_75 rfl ?_
      refine cv_X1_41 X eX1_tryOrders_77 (p_findLeast _ G b N w10 (ko + 23) (by omega) _ _ _ _ _ hsme1 kn (by omega) (by omega) lw P hq1 1 (by omega)) (by omega) (by omega) hsmo_w10 rfl (Nat.le_of_ble_eq_true rfl) (fun w12 hp12 => ?_)
      obtain ⟨plf1, cef1, gof1, hsmf1, hokf1, g12⟩ := hp12
      have ho_w12 := (g12 ko (by omega)).trans ho_w10
      have har0_w12 := (g12 (ko + 1) (by omega)).trans har0_w10
      have m11_w12 := (g12 kn (by omega)).trans m11_w10
      have m13_w12 : w12 (ko + 23) = .inr (4, [.int (nI 1), .int (tA lw P 1), .ref (b + (ko + 24)), .ref (b + (ko + 25)), .ref (b + (ko + 26))]) := hsmf1.1
      have fr_w12 : ∀ j, (j < ko ∨ (ko + 1 ≤ j ∧ j < ko + 3 * d + 5) ∨ ko + 27 ≤ j) → w12 j = w j := fun j hj => (g12 j (by omega)).trans (fr_w10 j hj)
      have hqf1 := hq1.fr (fun j h1 h2 => g12 j (by omega))
      have hpf1 := hpe1.fr (fun j h1 h2 => g12 j (by omega))
      have half1 := all_fr hale1 (fun j h1 h2 => g12 j (by omega))
      refine r_iload X eX1_tryOrders_80 rfl ?_
      refine r_aload X eX1_tryOrders_82 rfl ?_
      refine r_aload_n X eX1_tryOrders_84 rfl ?_
      refine gf_X1_21 X eX1_tryOrders_85 (by omega) ho_w12 ?_
      refine cp_X1_45 X eX1_tryOrders_88 (p_kept _ G b N w12 kn (by omega) lw P hqf1 (ko + 23) 1 (by omega) (by omega) (by omega) _ _ _ _ hsmf1 hokf1) (by omega) (by omega) m11_w12 rfl (Nat.le_of_ble_eq_true rfl) ?_
      refine r_iadd X eX1_tryOrders_91 (kp + (kA lw P 1)) rfl ?_
      refine r_istore X eX1_tryOrders_92 (Nat.le_of_ble_eq_true rfl) (L2 := [some (.ref (b + ko)), some (.int (nI d)), some (.int (nI 0)), some (.int (nI e)), some (.int (nI (enc pre))), some (.int cs), some (.int kp), some (.ref (b + kn)), some (.int (nI 1)), some (.int (kp + (kA lw P 1)))]) rfl ?_
      refine r_aload X eX1_tryOrders_94 rfl ?_
      refine r_aload_n X eX1_tryOrders_96 rfl ?_
      refine gf_X1_21 X eX1_tryOrders_97 (by omega) ho_w12 ?_
      refine cv_X1_49 X eX1_tryOrders_100 (p_takeOut _ G b N w12 kn (by omega) lw P hqf1 (ko + 23) 1 (by omega) (by omega) (by omega) _ _ _ _ hsmf1 hokf1 (show 2 < P.2.1 by omega)) (by omega) (by omega) m11_w12 rfl (Nat.le_of_ble_eq_true rfl) (fun w14 hp14 => ?_)
      obtain ⟨hqg1, g14⟩ := hp14
      have ho_w14 := (g14 ko (by omega)).trans ho_w12
      have har0_w14 := (g14 (ko + 1) (by omega)).trans har0_w12
      have m13_w14 := (g14 (ko + 23) (by omega)).trans m13_w12
      have m15_w14 : w14 kn = .inr (3, [.int (nI ((cutP lw P 1).1)), .int (nI ((cutP lw P 1).2.1)), .int (nI lw), .ref (b + (kn + 1)), .ref (b + (kn + 2))]) := hqg1.obj
      have fr_w14 : ∀ j, (j < ko ∨ (ko + 1 ≤ j ∧ j < ko + 3 * d + 5) ∨ ko + 27 ≤ j) → w14 j = w j := fun j hj => (g14 j (by omega)).trans (fr_w12 j hj)
      have hpg1 := hpf1.fr (fun j h1 h2 => g14 j (by omega))
      have halg1 := all_set half1 hkn hqg1 (fun j hj => g14 j hj)
      have hsmg1 := hsmf1.fr (fun j h1 h2 => g14 j (by omega))
      refine r_aload_n X eX1_tryOrders_103 rfl ?_
      refine r_iload_n X eX1_tryOrders_104 rfl ?_
      refine r_iconst X eX1_tryOrders_105 (nI 1) (by decide) ?_
      refine r_iadd X eX1_tryOrders_106 (nI (d + 1)) (addN (by omega)) ?_
      refine r_iload_n X eX1_tryOrders_107 rfl ?_
      refine r_iconst X eX1_tryOrders_108 (nI 1) (by decide) ?_
      refine r_iload X eX1_tryOrders_109 rfl ?_
      refine r_isub X eX1_tryOrders_111 (nI (1 - 1)) (pk_sub (by omega)) ?_
      refine r_isub X eX1_tryOrders_112 (nI (0 - (1 - 1))) (pk_sub (by omega)) ?_
      refine r_iload_n X eX1_tryOrders_113 rfl ?_
      refine r_iload X eX1_tryOrders_114 rfl ?_
      refine r_isub X eX1_tryOrders_116 (nI (e - 1)) (pk_sub (by omega)) ?_
      refine r_iload X eX1_tryOrders_117 rfl ?_
      refine r_iload X eX1_tryOrders_119 rfl ?_
      refine r_iload_n X eX1_tryOrders_121 rfl ?_
      refine r_ishl X eX1_tryOrders_122 ((nI 1) <<< ((nI d) &&& 31)) rfl ?_
      refine r_ior X eX1_tryOrders_123 (nI (enc (pre ++ [1]))) (enc_or hd hpre (by omega) (by omega)) ?_
      refine r_iload X eX1_tryOrders_124 rfl ?_
      refine r_aload_n X eX1_tryOrders_126 rfl ?_
      refine gf_X1_21 X eX1_tryOrders_127 (by omega) ho_w14 ?_
      refine gf_X1_53 X eX1_tryOrders_130 (by omega) m13_w14 ?_
      refine r_iadd X eX1_tryOrders_133 (cs + (tA lw P 1)) rfl ?_
      refine r_iload X eX1_tryOrders_134 rfl ?_
      refine cv_X1_33 X eX1_tryOrders_136 (ih _ w14 ko hko ac (d + 1) (0 - (1 - 1)) (e - 1) (pre ++ [1]) (cs + tA lw P 1) (kp + kA lw P 1) lw (cutP lw P 1) (by omega) (by rw [List.length_append, hd]; rfl) (by omega) (pre_st hpre (by omega)) ho_w14 ⟨har0_w14, halg1, ⟨_, _, _, _, _, hsmg1⟩⟩ (hkn ▸ hqg1) (show 0 - (1 - 1) + 2 ≤ P.1 - (1 - 1) by omega) (show e - 1 + 2 ≤ P.2.1 - 1 by omega) (by omega)) (by omega) (by omega) ho_w14 rfl (Nat.le_of_ble_eq_true rfl) (fun w16 hp16 => ?_)
      obtain ⟨ho1, ⟨har1, hals1, wyr1, ttr1, plr1, cer1, gor1, hsmr1⟩, g16⟩ := hp16
      have m17_w16 : w16 ko = .inr (1, [.int ((trS lw n (0 - (1 - 1)) (e - 1) (pre ++ [1]) (cs + tA lw P 1) (kp + kA lw P 1) (cutP lw P 1) ac).1), .int (nI (enc (trS lw n (0 - (1 - 1)) (e - 1) (pre ++ [1]) (cs + tA lw P 1) (kp + kA lw P 1) (cutP lw P 1) ac).2.1)), .int ((trS lw n (0 - (1 - 1)) (e - 1) (pre ++ [1]) (cs + tA lw P 1) (kp + kA lw P 1) (cutP lw P 1) ac).2.2.1), .int (nI ((trS lw n (0 - (1 - 1)) (e - 1) (pre ++ [1]) (cs + tA lw P 1) (kp + kA lw P 1) (cutP lw P 1) ac).2.2.2)), .ref (b + (ko + 1)), .ref (b + (ko + 23))]) := ho1
      have m18_w16 : w16 (ko + 1) = aP G 7 (fun i => some (b + (ko + 3 * i + 2))) := har1
      have m19_w16 : w16 (ko + 23) = .inr (4, [.int (nI wyr1), .int ttr1, .ref (b + (ko + 24)), .ref (b + (ko + 25)), .ref (b + (ko + 26))]) := hsmr1.1
      have fr_w16 : ∀ j, (j < ko ∨ (ko + 1 ≤ j ∧ j < ko + 3 * d + 5) ∨ ko + 27 ≤ j) → w16 j = w j := fun j hj => (g16 j (by omega)).trans (fr_w14 j hj)
      have hpd1 := hpg1.fr (fun j h1 h2 => g16 j (by omega))
      have hall1 := hals1
      have hsm1 := hsmr1
      refine r_iinc X eX1_tryOrders_139 rfl (nI 2) (inc_nI _) (L2 := [some (.ref (b + ko)), some (.int (nI d)), some (.int (nI 0)), some (.int (nI e)), some (.int (nI (enc pre))), some (.int cs), some (.int kp), some (.ref (b + kn)), some (.int (nI 2)), some (.int (kp + (kA lw P 1)))]) rfl ?_
      refine r_goto (tgt := 39) X eX1_tryOrders_142 (by decide) ?_
      refine r_iload X eX1_tryOrders_39 rfl ?_
      refine r_iconst X eX1_tryOrders_41 (nI 1) (by decide) ?_
      refine r_icmp_gt (tgt := 145) X eX1_tryOrders_42 (by decide) (nI_toInt (by omega)) (nI_toInt (by omega)) (fun c_20 => ?_) (fun c_20 => absurd c_20 (by omega))
      exact ret _ _ _ _ eX1_tryOrders_145 (⟨(m17_w16).trans (congrArg (osF b ko) (trS_01 he0)), ⟨m18_w16, hall1, ⟨_, _, _, _, _, hsm1⟩⟩, fr_w16⟩)
set_option maxHeartbeats 4000000 in
set_option maxRecDepth 100000 in
theorem c_X1_findBest (l : Launch) (G : Gs) (b N : Nat) (w : Wd) (ko : Nat) (hko : ko + 27 ≤ N) (ac : Acc) (ho : w ko = osF b ko ac) (hos : osW G b w ko) (k : Nat) (hk : k + 3 ≤ N) (hdj : k + 3 ≤ ko ∨ ko + 27 ≤ k) (lw : Nat) (P : Pc) (hp : isP G b w k lw P) (a e : Nat) (ha : a + 2 ≤ P.1) (he : e + 2 ≤ P.2.1) (h6 : a + e ≤ 6) : CV l yX1_findBest cX1_findBest 4 12 G b N w [.ref (b + ko), .ref (b + k), .int (nI a), .int (nI e)] (fun w2 => (∃ ac0 : Acc, ac0.2.2.2 = 0 ∧ w2 ko = osF b ko (trS lw (a + e) a e [] 0 0 P ac0)) ∧ osW G b w2 ko ∧ ∀ j, (j < ko ∨ ko + 27 ≤ j) → w2 j = w j) := by
  obtain ⟨har0, hall0, wyi, tti, pli, cei, goi, hsm0⟩ := hos
  obtain ⟨lw0, P0, hp0⟩ := hall0 0 (by omega)
  obtain ⟨k0, hk0⟩ : ∃ k0, k0 = ko + 3 * 0 + 2 := ⟨_, rfl⟩
  rw [← hk0] at hp0
  have hpo := hp.obj
  have hp0o := hp0.obj
  refine CV_of (L0 := [some (.ref (b + ko)), some (.ref (b + k)), some (.int (nI a)), some (.int (nI e))]) (by decide) rfl (by simp [Value.category]) rfl (Nat.le_of_ble_eq_true rfl) (fun κ X ret => ?_)
  have fr_w : ∀ j, (j < ko ∨ ko + 27 ≤ j) → w j = w j := fun _ _ => rfl
  refine r_aload_n X eX1_findBest_0 rfl ?_
  refine r_iconst X eX1_findBest_1 (nI 0) (by decide) ?_
  refine pf_X1_25 X eX1_findBest_2 (by omega) ho (fun w1 n1_w1 uu1 => ?_)
  have har0_w1 := (uu1 (ko + 1) (by omega)).trans har0
  have hpo_w1 := (uu1 k (by omega)).trans hpo
  have hp0o_w1 := (uu1 k0 (by omega)).trans hp0o
  have fr_w1 : ∀ j, (j < ko ∨ ko + 27 ≤ j) → w1 j = w j := fun j hj => (uu1 j (by omega)).trans (fr_w j hj)
  refine r_aload_n X eX1_findBest_5 rfl ?_
  refine gf_X1_11 X eX1_findBest_6 (by omega) n1_w1 ?_
  refine r_iconst X eX1_findBest_9 (nI 0) (by decide) ?_
  refine r_aald (a := b + k0) X eX1_findBest_10 (by omega) har0_w1 (by omega) (by decide) (by rw [hk0]) ?_
  refine r_aload_n X eX1_findBest_11 rfl ?_
  refine cv_X1_29 X eX1_findBest_12 (p_copyFrom _ G b N w1 k0 (by omega) lw0 P0 (hp0.fr (fun j h1 h2 => uu1 j (by omega))) k (by omega) (by omega) lw P (hp.fr (fun j h1 h2 => uu1 j (by omega)))) (by omega) (by omega) hp0o_w1 rfl (Nat.le_of_ble_eq_true rfl) (fun w2 hp2 => ?_)
  obtain ⟨hq, g2⟩ := hp2
  have n1_w2 := (g2 ko (by omega)).trans n1_w1
  have har0_w2 := (g2 (ko + 1) (by omega)).trans har0_w1
  have hpo_w2 := (g2 k (by omega)).trans hpo_w1
  have m3_w2 : w2 k0 = .inr (3, [.int (nI P.1), .int (nI P.2.1), .int (nI lw), .ref (b + (k0 + 1)), .ref (b + (k0 + 2))]) := hq.obj
  have fr_w2 : ∀ j, (j < ko ∨ ko + 27 ≤ j) → w2 j = w j := fun j hj => (g2 j (by omega)).trans (fr_w1 j hj)
  have hall1 := all_set (i0 := 0) (all_fr hall0 (fun j h1 h2 => uu1 j (by omega))) hk0 hq (fun j hj => g2 j hj)
  have hsm1 := (hsm0.fr (fun j h1 h2 => uu1 j (by omega))).fr (fun j h1 h2 => g2 j (by omega))
  refine r_aload_n X eX1_findBest_15 rfl ?_
  refine r_iconst X eX1_findBest_16 (nI 0) (by decide) ?_
  refine r_iload_n X eX1_findBest_17 rfl ?_
  refine r_iload_n X eX1_findBest_18 rfl ?_
  refine r_iconst X eX1_findBest_19 (nI 0) (by decide) ?_
  refine r_iconst X eX1_findBest_20 ((0 : Int32)) (by decide) ?_
  refine r_iconst X eX1_findBest_21 ((0 : Int32)) (by decide) ?_
  refine cv_X1_33 X eX1_findBest_22 ((c_X1_tryOrders G b N (a + e) _ w2 ko hko (ac.1, ac.2.1, ac.2.2.1, 0) 0 a e [] 0 0 lw P rfl rfl (by omega) (fun x hx => absurd hx List.not_mem_nil) n1_w2 ⟨har0_w2, hall1, ⟨_, _, _, _, _, hsm1⟩⟩ (hk0 ▸ hq) ha he (by have h64 : 2 ^ (a + e) ≤ 2 ^ 6 := Nat.pow_le_pow_right (by decide) h6; show 0 + 2 ^ (a + e) ≤ 2 ^ 19; omega))) (by omega) (by omega) n1_w2 rfl (Nat.le_of_ble_eq_true rfl) (fun w4 hp4 => ?_)
  obtain ⟨ho2, hos2, g4⟩ := hp4
  have hpo_w4 := (g4 k (by omega)).trans hpo_w2
  have m5_w4 : w4 ko = .inr (1, [.int ((trS lw (a + e) a e [] 0 0 P (ac.1, ac.2.1, ac.2.2.1, 0)).1), .int (nI (enc (trS lw (a + e) a e [] 0 0 P (ac.1, ac.2.1, ac.2.2.1, 0)).2.1)), .int ((trS lw (a + e) a e [] 0 0 P (ac.1, ac.2.1, ac.2.2.1, 0)).2.2.1), .int (nI ((trS lw (a + e) a e [] 0 0 P (ac.1, ac.2.1, ac.2.2.1, 0)).2.2.2)), .ref (b + (ko + 1)), .ref (b + (ko + 23))]) := ho2
  have m6_w4 : w4 (ko + 1) = aP G 7 (fun i => some (b + (ko + 3 * i + 2))) := hos2.1
  have fr_w4 : ∀ j, (j < ko ∨ ko + 27 ≤ j) → w4 j = w j := fun j hj => (g4 j (by omega)).trans (fr_w2 j hj)
  exact ret _ _ _ _ eX1_findBest_25 (⟨⟨(ac.1, ac.2.1, ac.2.2.1, 0), rfl, ho2⟩, hos2, fr_w4⟩)
