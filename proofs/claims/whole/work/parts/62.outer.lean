theorem sysC.fr {G : Gs} {b : Nat} {w w2 : Wd} {S : Sg} (h : sysC G b w S) (hf : ∀ j, j < 77 → w2 j = w j) : sysC G b w2 S := by
  obtain ⟨a0, a1, a2, a3, ⟨ac, a4⟩, a5, a6, a7, a8, a9, a10⟩ := h
  exact ⟨(hf 0 (by omega)).trans a0, a1.fr (fun j _ _ => hf j (by omega)), a2.fr (fun j _ _ => hf j (by omega)), a3.fr (fun j _ _ => hf j (by omega)), ⟨ac, (hf 10 (by omega)).trans a4⟩, a5.fr (fun j _ _ => hf j (by omega)), a6.fr (fun j _ _ => hf j (by omega)), (hf 69 (by omega)).trans a7, fun i hi => (a8 i hi).fr (fun j _ _ => hf j (by omega)), (hf 76 (by omega)).trans a9, a10⟩
theorem sysM.fr {G : Gs} {b : Nat} {w w2 : Wd} {S : Sg} (h : sysM G b w S) (hf : ∀ j, 77 ≤ j → j < 88 → w2 j = w j) : sysM G b w2 S := by
  obtain ⟨wd, hg, sc, kc, bc, bo, ag, bk, st, ims, gr, mk, rs, se, tt, tc, ⟨m0, m1, m2, m3, m4, m5, m6, m7, m8, m9, m10⟩, h2⟩ := h
  exact ⟨wd, hg, sc, kc, bc, bo, ag, bk, st, ims, gr, mk, rs, se, tt, tc, ⟨(hf 77 (by omega) (by omega)).trans m0, (hf 78 (by omega) (by omega)).trans m1, (hf 79 (by omega) (by omega)).trans m2, (hf 80 (by omega) (by omega)).trans m3, (hf 81 (by omega) (by omega)).trans m4, (hf 82 (by omega) (by omega)).trans m5, (hf 83 (by omega) (by omega)).trans m6, (hf 84 (by omega) (by omega)).trans m7, (hf 85 (by omega) (by omega)).trans m8, (hf 86 (by omega) (by omega)).trans m9, (hf 87 (by omega) (by omega)).trans m10⟩, h2⟩
/-- the state of a new object -/
def S0 : Sg := (0, P0, 0, fun _ => 0, fun _ => (0, P0), fun _ => 0)
theorem stI0 : stI (upd (upd (fun _ => 0) 128 (nI 4)) 129 (nI 4)) 0 P0 := by
  refine ⟨fun x y hx hy => ⟨?_, ?_⟩, rfl, rfl, rfl, ⟨by decide, by decide, by decide, by decide⟩, by decide⟩
  · rw [upd_ne (by omega), upd_ne (by omega)]
    show (0 : Int32) = if _ then 0 else 0
    split <;> rfl
  · rw [upd_ne (by omega), upd_ne (by omega)]
    show (0 : Int32) = if _ then 0 else 0
    split <;> rfl
set_option maxHeartbeats 4000000 in
set_option maxRecDepth 100000 in
theorem c_X5_init (l : Launch) (G : Gs) (b : Nat) (w : Wd) (ho : w 0 = .inr (5, [.null, .null, .null, .null, .null, .null, .null])) : CK l yX5_init cX5_init 2 3 G b (1) w [.ref (b + 0)] 76 2942 (fun w2 => sysC G b w2 S0 ∧ True) := by
  refine CK_of (L0 := [some (.ref (b + 0)), none]) (by decide) rfl rfl (by simp [Value.category]) rfl (Nat.le_of_ble_eq_true rfl) (fun κ X Y hi ret => ?_)
  have fr_w : ∀ j, j < 0 → w j = w j := fun _ _ => rfl
  refine r_aload_n X eX5_init_0 rfl ?_
  refine r_obj X eX5_init_1 qw_9 rfl (Nat.le_of_ble_eq_true rfl) ?_
  refine r_aload_n X eX5_init_4 rfl ?_
  refine nw_X5_7 X Y eX5_init_5 (by omega) (by omega) (by omega) (fun w1 n1_w1 uu1 => ?_)
  have ho_w1 := (uu1 0 (by omega)).trans ho
  have fr_w1 : ∀ j, j < 0 → w1 j = w j := fun j hj => (uu1 j (by omega)).trans (fr_w j hj)
  refine r_dup X eX5_init_8 rfl ?_
  refine kc_X5_9 X Y eX5_init_9 (c_X3_init _ G b w1 1 n1_w1) (by decide) rfl (Nat.le_of_ble_eq_true rfl) (by omega) (by omega) (by omega) (fun w2 hp2 => ?_)
  obtain ⟨pp2_w2, uu2⟩ := hp2
  have ho_w2 := (uu2 0 (by omega)).trans ho_w1
  have fr_w2 : ∀ j, j < 0 → w2 j = w j := fun j hj => (uu2 j (by omega)).trans (fr_w1 j hj)
  refine pF_X5_10 X hi eX5_init_12 (by omega) ho_w2 (fun w3 n3_w3 uu3 => ?_)
  have fr_w3 : ∀ j, j < 0 → w3 j = w j := fun j hj => (uu3 j (by omega)).trans (fr_w2 j hj)
  have pp2_w3 := pp2_w2.fr (fun j _ _ => uu3 j (by omega))
  refine r_aload_n X eX5_init_15 rfl ?_
  refine nw_X5_16 X Y eX5_init_16 (by omega) (by omega) (by omega) (fun w4 n4_w4 uu4 => ?_)
  have n3_w4 := (uu4 0 (by omega)).trans n3_w3
  have fr_w4 : ∀ j, j < 0 → w4 j = w j := fun j hj => (uu4 j (by omega)).trans (fr_w3 j hj)
  have pp2_w4 := pp2_w3.fr (fun j _ _ => uu4 j (by omega))
  refine r_dup X eX5_init_19 rfl ?_
  refine kc_X5_18 X Y eX5_init_20 (c_X4_init _ G b w4 4 n4_w4) (by decide) rfl (Nat.le_of_ble_eq_true rfl) (by omega) (by omega) (by omega) (fun w5 hp5 => ?_)
  obtain ⟨pp5_w5, uu5⟩ := hp5
  have n3_w5 := (uu5 0 (by omega)).trans n3_w4
  have fr_w5 : ∀ j, j < 0 → w5 j = w j := fun j hj => (uu5 j (by omega)).trans (fr_w4 j hj)
  have pp2_w5 := pp2_w4.fr (fun j _ _ => uu5 j (by omega))
  refine pF_X5_19 X hi eX5_init_23 (by omega) n3_w5 (fun w6 n6_w6 uu6 => ?_)
  have fr_w6 : ∀ j, j < 0 → w6 j = w j := fun j hj => (uu6 j (by omega)).trans (fr_w5 j hj)
  have pp2_w6 := pp2_w5.fr (fun j _ _ => uu6 j (by omega))
  have pp5_w6 := pp5_w5.fr (fun j _ _ => uu6 j (by omega))
  refine r_aload_n X eX5_init_26 rfl ?_
  refine nw_X5_23 X Y eX5_init_27 (by omega) (by omega) (by omega) (fun w7 n7_w7 uu7 => ?_)
  have n6_w7 := (uu7 0 (by omega)).trans n6_w6
  have fr_w7 : ∀ j, j < 0 → w7 j = w j := fun j hj => (uu7 j (by omega)).trans (fr_w6 j hj)
  have pp2_w7 := pp2_w6.fr (fun j _ _ => uu7 j (by omega))
  have pp5_w7 := pp5_w6.fr (fun j _ _ => uu7 j (by omega))
  refine r_dup X eX5_init_30 rfl ?_
  refine kc_X5_25 X Y eX5_init_31 (c_X2_init _ G b w7 8 n7_w7) (by decide) rfl (Nat.le_of_ble_eq_true rfl) (by omega) (by omega) (by omega) (fun w8 hp8 => ?_)
  obtain ⟨pp8_w8, uu8⟩ := hp8
  have n6_w8 := (uu8 0 (by omega)).trans n6_w7
  have fr_w8 : ∀ j, j < 0 → w8 j = w j := fun j hj => (uu8 j (by omega)).trans (fr_w7 j hj)
  have pp2_w8 := pp2_w7.fr (fun j _ _ => uu8 j (by omega))
  have pp5_w8 := pp5_w7.fr (fun j _ _ => uu8 j (by omega))
  refine pF_X5_26 X hi eX5_init_34 (by omega) n6_w8 (fun w9 n9_w9 uu9 => ?_)
  have fr_w9 : ∀ j, j < 0 → w9 j = w j := fun j hj => (uu9 j (by omega)).trans (fr_w8 j hj)
  have pp2_w9 := pp2_w8.fr (fun j _ _ => uu9 j (by omega))
  have pp5_w9 := pp5_w8.fr (fun j _ _ => uu9 j (by omega))
  have pp8_w9 := pp8_w8.fr (fun j _ _ => uu9 j (by omega))
  refine r_aload_n X eX5_init_37 rfl ?_
  refine nw_X5_30 X Y eX5_init_38 (by omega) (by omega) (by omega) (fun w10 n10_w10 uu10 => ?_)
  have n9_w10 := (uu10 0 (by omega)).trans n9_w9
  have fr_w10 : ∀ j, j < 0 → w10 j = w j := fun j hj => (uu10 j (by omega)).trans (fr_w9 j hj)
  have pp2_w10 := pp2_w9.fr (fun j _ _ => uu10 j (by omega))
  have pp5_w10 := pp5_w9.fr (fun j _ _ => uu10 j (by omega))
  have pp8_w10 := pp8_w9.fr (fun j _ _ => uu10 j (by omega))
  refine r_dup X eX5_init_41 rfl ?_
  refine kc_X5_32 X Y eX5_init_42 (c_X1_init _ G b w10 10 n10_w10) (by decide) rfl (Nat.le_of_ble_eq_true rfl) (by omega) (by omega) (by omega) (fun w11 hp11 => ?_)
  obtain ⟨pp11_w11, uu11⟩ := hp11
  have n9_w11 := (uu11 0 (by omega)).trans n9_w10
  have fr_w11 : ∀ j, j < 0 → w11 j = w j := fun j hj => (uu11 j (by omega)).trans (fr_w10 j hj)
  have pp2_w11 := pp2_w10.fr (fun j _ _ => uu11 j (by omega))
  have pp5_w11 := pp5_w10.fr (fun j _ _ => uu11 j (by omega))
  have pp8_w11 := pp8_w10.fr (fun j _ _ => uu11 j (by omega))
  refine pF_X5_33 X hi eX5_init_45 (by omega) n9_w11 (fun w12 n12_w12 uu12 => ?_)
  have fr_w12 : ∀ j, j < 0 → w12 j = w j := fun j hj => (uu12 j (by omega)).trans (fr_w11 j hj)
  have pp2_w12 := pp2_w11.fr (fun j _ _ => uu12 j (by omega))
  have pp5_w12 := pp5_w11.fr (fun j _ _ => uu12 j (by omega))
  have pp8_w12 := pp8_w11.fr (fun j _ _ => uu12 j (by omega))
  have pp11_w12 := And.intro ((uu12 10 (by omega)).trans pp11_w11.1) (pp11_w11.2.fr (fun j _ _ => uu12 j (by omega)))
  refine r_aload_n X eX5_init_48 rfl ?_
  refine nw_X5_37 X Y eX5_init_49 (by omega) (by omega) (by omega) (fun w13 n13_w13 uu13 => ?_)
  have n12_w13 := (uu13 0 (by omega)).trans n12_w12
  have fr_w13 : ∀ j, j < 0 → w13 j = w j := fun j hj => (uu13 j (by omega)).trans (fr_w12 j hj)
  have pp2_w13 := pp2_w12.fr (fun j _ _ => uu13 j (by omega))
  have pp5_w13 := pp5_w12.fr (fun j _ _ => uu13 j (by omega))
  have pp8_w13 := pp8_w12.fr (fun j _ _ => uu13 j (by omega))
  have pp11_w13 := And.intro ((uu13 10 (by omega)).trans pp11_w12.1) (pp11_w12.2.fr (fun j _ _ => uu13 j (by omega)))
  refine r_dup X eX5_init_52 rfl ?_
  refine kc_X5_39 X Y eX5_init_53 (c_X0_init _ G b w13 37 n13_w13) (by decide) rfl (Nat.le_of_ble_eq_true rfl) (by omega) (by omega) (by omega) (fun w14 hp14 => ?_)
  obtain ⟨pp14_w14, uu14⟩ := hp14
  have n12_w14 := (uu14 0 (by omega)).trans n12_w13
  have fr_w14 : ∀ j, j < 0 → w14 j = w j := fun j hj => (uu14 j (by omega)).trans (fr_w13 j hj)
  have pp2_w14 := pp2_w13.fr (fun j _ _ => uu14 j (by omega))
  have pp5_w14 := pp5_w13.fr (fun j _ _ => uu14 j (by omega))
  have pp8_w14 := pp8_w13.fr (fun j _ _ => uu14 j (by omega))
  have pp11_w14 := And.intro ((uu14 10 (by omega)).trans pp11_w13.1) (pp11_w13.2.fr (fun j _ _ => uu14 j (by omega)))
  refine pF_X5_40 X hi eX5_init_56 (by omega) n12_w14 (fun w15 n15_w15 uu15 => ?_)
  have fr_w15 : ∀ j, j < 0 → w15 j = w j := fun j hj => (uu15 j (by omega)).trans (fr_w14 j hj)
  have pp2_w15 := pp2_w14.fr (fun j _ _ => uu15 j (by omega))
  have pp5_w15 := pp5_w14.fr (fun j _ _ => uu15 j (by omega))
  have pp8_w15 := pp8_w14.fr (fun j _ _ => uu15 j (by omega))
  have pp11_w15 := And.intro ((uu15 10 (by omega)).trans pp11_w14.1) (pp11_w14.2.fr (fun j _ _ => uu15 j (by omega)))
  have pp14_w15 := pp14_w14.fr (fun j _ _ => uu15 j (by omega))
  refine r_aload_n X eX5_init_59 rfl ?_
  refine r_iconst X eX5_init_60 (nI 2) (by decide) ?_
  refine r_newP X Y eX5_init_61 qw_12 (by decide) (by omega) (by omega) (by omega) (fun w16 n16_w16 uu16 => ?_)
  have n15_w16 := (uu16 0 (by omega)).trans n15_w15
  have fr_w16 : ∀ j, j < 0 → w16 j = w j := fun j hj => (uu16 j (by omega)).trans (fr_w15 j hj)
  have pp2_w16 := pp2_w15.fr (fun j _ _ => uu16 j (by omega))
  have pp5_w16 := pp5_w15.fr (fun j _ _ => uu16 j (by omega))
  have pp8_w16 := pp8_w15.fr (fun j _ _ => uu16 j (by omega))
  have pp11_w16 := And.intro ((uu16 10 (by omega)).trans pp11_w15.1) (pp11_w15.2.fr (fun j _ _ => uu16 j (by omega)))
  have pp14_w16 := pp14_w15.fr (fun j _ _ => uu16 j (by omega))
  refine pF_X5_44 X hi eX5_init_64 (by omega) n15_w16 (fun w17 n17_w17 uu17 => ?_)
  have n16_w17 := (uu17 69 (by omega)).trans n16_w16
  have fr_w17 : ∀ j, j < 0 → w17 j = w j := fun j hj => (uu17 j (by omega)).trans (fr_w16 j hj)
  have pp2_w17 := pp2_w16.fr (fun j _ _ => uu17 j (by omega))
  have pp5_w17 := pp5_w16.fr (fun j _ _ => uu17 j (by omega))
  have pp8_w17 := pp8_w16.fr (fun j _ _ => uu17 j (by omega))
  have pp11_w17 := And.intro ((uu17 10 (by omega)).trans pp11_w16.1) (pp11_w16.2.fr (fun j _ _ => uu17 j (by omega)))
  have pp14_w17 := pp14_w16.fr (fun j _ _ => uu17 j (by omega))
  refine r_iconst X eX5_init_67 (nI 0) (by decide) ?_
  refine r_istore_n X eX5_init_68 (Nat.le_of_ble_eq_true rfl) (L2 := [some (.ref (b + 0)), some (.int (nI 0))]) rfl ?_
  have hx : ∀ (f : Nat → Option Nat) (wx : Wd), (wx 69 = aP G 2 f) → (∀ j, j < 2 → f j = some (b + (3 * j + 70))) → (∀ j, j < 2 → isP G b wx (3 * j + 70) 0 P0) → (∀ j, j < 70 → j ≠ 69 → wx j = w17 j) → V κ G b (3 * 2 + 70, 69 + 3 * 2, 2674 + 133 * 2) wx 93 [some (.ref (b + 0)), some (.int (nI 2))] [] := by
    intro f wx ha hf hp hfr
    have n17_wx := (hfr 0 (by omega) (by omega)).trans n17_w17
    have pp2_wx := pp2_w17.fr (fun j _ _ => hfr j (by omega) (by omega))
    have pp5_wx := pp5_w17.fr (fun j _ _ => hfr j (by omega) (by omega))
    have pp8_wx := pp8_w17.fr (fun j _ _ => hfr j (by omega) (by omega))
    have pp11_wx := And.intro ((hfr 10 (by omega) (by omega)).trans pp11_w17.1) (pp11_w17.2.fr (fun j _ _ => hfr j (by omega) (by omega)))
    have pp14_wx := pp14_w17.fr (fun j _ _ => hfr j (by omega) (by omega))
    have fr_wx : ∀ j, j < 0 → wx j = w j := fun j hj => (hfr j (by omega) (by omega)).trans (fr_w17 j hj)
    refine r_ext (g := fun i => some (b + (3 * i + 70))) ha (fun j hj => hf j hj) (fun w18 n18_w18 uu18 => ?_)
    have n17_w18 := (uu18 0 (by omega)).trans n17_wx
    have fr_w18 : ∀ j, j < 0 → w18 j = w j := fun j hj => (uu18 j (by omega)).trans (fr_wx j hj)
    have pp2_w18 := pp2_wx.fr (fun j _ _ => uu18 j (by omega))
    have pp5_w18 := pp5_wx.fr (fun j _ _ => uu18 j (by omega))
    have pp8_w18 := pp8_wx.fr (fun j _ _ => uu18 j (by omega))
    have pp11_w18 := And.intro ((uu18 10 (by omega)).trans pp11_wx.1) (pp11_wx.2.fr (fun j _ _ => uu18 j (by omega)))
    have pp14_w18 := pp14_wx.fr (fun j _ _ => uu18 j (by omega))
    have hpp_w18 := fun j hj => (hp j hj).fr (fun t _ _ => uu18 t (by omega))
    refine r_aload_n X eX5_init_93 rfl ?_
    refine r_iconst X eX5_init_94 (nI 2) (by decide) ?_
    refine r_newZ X Y eX5_init_95 (by decide) (by omega) (by omega) (by omega) (fun w19 n19_w19 uu19 => ?_)
    have n17_w19 := (uu19 0 (by omega)).trans n17_w18
    have n18_w19 := (uu19 69 (by omega)).trans n18_w18
    have fr_w19 : ∀ j, j < 0 → w19 j = w j := fun j hj => (uu19 j (by omega)).trans (fr_w18 j hj)
    have pp2_w19 := pp2_w18.fr (fun j _ _ => uu19 j (by omega))
    have pp5_w19 := pp5_w18.fr (fun j _ _ => uu19 j (by omega))
    have pp8_w19 := pp8_w18.fr (fun j _ _ => uu19 j (by omega))
    have pp11_w19 := And.intro ((uu19 10 (by omega)).trans pp11_w18.1) (pp11_w18.2.fr (fun j _ _ => uu19 j (by omega)))
    have pp14_w19 := pp14_w18.fr (fun j _ _ => uu19 j (by omega))
    have hpp_w19 := fun j hj => (hpp_w18 j hj).fr (fun t _ _ => uu19 t (by omega))
    refine pF_X5_48 X hi eX5_init_97 (by omega) n17_w19 (fun w20 n20_w20 uu20 => ?_)
    have n18_w20 := (uu20 69 (by omega)).trans n18_w19
    have n19_w20 := (uu20 76 (by omega)).trans n19_w19
    have fr_w20 : ∀ j, j < 0 → w20 j = w j := fun j hj => (uu20 j (by omega)).trans (fr_w19 j hj)
    have pp2_w20 := pp2_w19.fr (fun j _ _ => uu20 j (by omega))
    have pp5_w20 := pp5_w19.fr (fun j _ _ => uu20 j (by omega))
    have pp8_w20 := pp8_w19.fr (fun j _ _ => uu20 j (by omega))
    have pp11_w20 := And.intro ((uu20 10 (by omega)).trans pp11_w19.1) (pp11_w19.2.fr (fun j _ _ => uu20 j (by omega)))
    have pp14_w20 := pp14_w19.fr (fun j _ _ => uu20 j (by omega))
    have hpp_w20 := fun j hj => (hpp_w19 j hj).fr (fun t _ _ => uu20 t (by omega))
    refine r_nu (ν2 := (1 + 76, 76, 2942)) (nu_eq (by omega) (by omega) (by omega)) ?_
    exact ret _ _ _ _ eX5_init_100 (⟨⟨n20_w20, pp2_w20, pp5_w20, pp8_w20, ⟨_, pp11_w20.1⟩, pp11_w20.2, pp14_w20, n18_w20, fun i hi => hpp_w20 i hi, n19_w20, fun _ _ => Or.inl rfl⟩, trivial⟩)
  have lp : ∀ (fu i : Nat) (f : Nat → Option Nat) (wl : Wd), i ≤ 2 → (wl 69 = aP G 2 f) → (∀ j, j < i → f j = some (b + (3 * j + 70))) → (∀ j, j < i → isP G b wl (3 * j + 70) 0 P0) → (∀ j, j < 70 → j ≠ 69 → wl j = w17 j) → 2 - i < fu → V κ G b (3 * i + 70, 69 + 3 * i, 2674 + 133 * i) wl 69 [some (.ref (b + 0)), some (.int (nI i))] [] := by
    intro fu
    induction fu with
    | zero => intro i f wl hi0 ha hf hp hfr hm; exact absurd hm (Nat.not_lt_zero _)
    | succ fu ih =>
      intro i f wl hi0 ha hf hp hfr hm
      have ho := (hfr 0 (by omega) (by omega)).trans n17_w17
      refine r_iload_n X eX5_init_69 rfl ?_
      refine r_iconst X eX5_init_70 (nI 2) (by decide) ?_
      refine r_icmp_ge (tgt := 93) X eX5_init_71 (by decide) (nI_toInt (by omega)) (nI_toInt (by omega)) (fun c1 => ?_) (fun c1 => ?_)
      · obtain rfl : i = 2 := by omega
        exact hx f wl ha hf hp hfr
      · have hi1 : i < 2 := by omega
        refine r_aload_n X eX5_init_74 rfl ?_
        refine gf_X5_44 X eX5_init_75 (by show _ < 3 * i + 70; omega) ho ?_
        refine r_iload_n X eX5_init_78 rfl ?_
        refine nw_X5_7 X Y eX5_init_79 (by omega) (by omega) (by omega) (fun wa na ua => ?_)
        refine r_dup X eX5_init_82 rfl ?_
        refine kc_X5_9 X Y eX5_init_83 (c_X3_init _ G b wa (3 * i + 70) na) (by decide) rfl (Nat.le_of_ble_eq_true rfl) (by omega) (by omega) (by omega) (fun wb hb => ?_)
        obtain ⟨pb, ub⟩ := hb
        obtain ⟨fs, hfs⟩ := pb.cell
        have ha2 := (ub 69 (by omega)).trans ((ua 69 (by omega)).trans ha)
        refine r_aast X eX5_init_86 (by show _ < 3 * i + 70 + 1 + 2; omega) ha2 (by show _ < 3 * i + 70 + 1 + 2; omega) hfs (by omega) (by decide) (fun wc nc uc => ?_)
        refine r_iinc X eX5_init_87 rfl (nI (i + 1)) (inc_nI _) (L2 := [some (.ref (b + 0)), some (.int (nI (i + 1)))]) rfl ?_
        refine r_goto (tgt := 69) X eX5_init_90 (by decide) ?_
        refine r_nu (ν2 := (3 * (i + 1) + 70, 69 + 3 * (i + 1), 2674 + 133 * (i + 1))) (nu_eq (by omega) (by omega) (by omega)) ?_
        refine ih (i + 1) _ wc (by omega) nc (fun j hj => ?_) (fun j hj => ?_) (fun j h1 h2 => ?_) (by omega)
        · rcases Nat.lt_or_eq_of_le (Nat.le_of_lt_succ hj) with hj1 | hj1
          · rw [va_up_ne _ _ (by omega)]; exact hf j hj1
          · rw [hj1, va_up_self]
        · rcases Nat.lt_or_eq_of_le (Nat.le_of_lt_succ hj) with hj1 | hj1
          · exact (hp j hj1).fr (fun t h1 h2 => (uc t (by omega)).trans ((ub t (by omega)).trans (ua t (by omega))))
          · rw [hj1]; exact pb.fr (fun t h1 h2 => uc t (by omega))
        · exact (uc j h2).trans ((ub j (by omega)).trans ((ua j (by omega)).trans (hfr j h1 h2)))
  refine r_nu (ν2 := (3 * 0 + 70, 69 + 3 * 0, 2674 + 133 * 0)) (nu_eq (by omega) (by omega) (by omega)) ?_
  exact lp _ 0 _ w17 (by omega) n16_w17 (fun j hj => absurd hj (by omega)) (fun j hj => absurd hj (by omega)) (fun _ _ _ => rfl) (Nat.lt_succ_self _)
set_option maxHeartbeats 4000000 in
set_option maxRecDepth 100000 in
theorem c_X6_init (l : Launch) (G : Gs) (b : Nat) (w : Wd) (ho : w 77 = .inr (6, [.null, .null, .null, .null, .int (nI 0), .null, .null, .int (nI 0), .int (nI 0), .null, .null, .int (nI 0), .int (nI 0), .int (nI 0), .int (nI 0), .int (nI 0), .int (nI 0), .null, .null])) : CK l yX6_init cX6_init 1 1 G b (78) w [.ref (b + 77)] 10 6996 (fun w2 => sysM G b w2 S0 ∧ ∀ j, j < 77 → w2 j = w j) := by
  refine CK_of (L0 := [some (.ref (b + 77))]) (by decide) rfl rfl (by simp [Value.category]) rfl (Nat.le_of_ble_eq_true rfl) (fun κ X Y hi ret => ?_)
  have fr_w : ∀ j, j < 77 → w j = w j := fun _ _ => rfl
  refine r_aload_n X eX6_init_0 rfl ?_
  refine r_obj X eX6_init_1 qw_81 rfl (Nat.le_of_ble_eq_true rfl) ?_
  refine r_aload_n X eX6_init_4 rfl ?_
  refine r_sipush X eX6_init_5 (nI 131) (by decide) ?_
  refine r_newI X Y eX6_init_8 (by decide) (by omega) (by omega) (by omega) (fun w1 n1_w1 uu1 => ?_)
  have ho_w1 := (uu1 77 (by omega)).trans ho
  have fr_w1 : ∀ j, j < 77 → w1 j = w j := fun j hj => (uu1 j (by omega)).trans (fr_w j hj)
  refine pF_X6_7 X hi eX6_init_10 (by omega) ho_w1 (fun w2 n2_w2 uu2 => ?_)
  have n1_w2 := (uu2 78 (by omega)).trans n1_w1
  have fr_w2 : ∀ j, j < 77 → w2 j = w j := fun j hj => (uu2 j (by omega)).trans (fr_w1 j hj)
  refine r_aload_n X eX6_init_13 rfl ?_
  refine r_sipush X eX6_init_14 (nI 262) (by decide) ?_
  refine r_newI X Y eX6_init_17 (by decide) (by omega) (by omega) (by omega) (fun w3 n3_w3 uu3 => ?_)
  have n2_w3 := (uu3 77 (by omega)).trans n2_w2
  have n1_w3 := (uu3 78 (by omega)).trans n1_w2
  have fr_w3 : ∀ j, j < 77 → w3 j = w j := fun j hj => (uu3 j (by omega)).trans (fr_w2 j hj)
  refine pF_X6_13 X hi eX6_init_19 (by omega) n2_w3 (fun w4 n4_w4 uu4 => ?_)
  have n1_w4 := (uu4 78 (by omega)).trans n1_w3
  have n3_w4 := (uu4 79 (by omega)).trans n3_w3
  have fr_w4 : ∀ j, j < 77 → w4 j = w j := fun j hj => (uu4 j (by omega)).trans (fr_w3 j hj)
  refine r_aload_n X eX6_init_22 rfl ?_
  refine r_iconst X eX6_init_23 (nI 2) (by decide) ?_
  refine r_newZ X Y eX6_init_24 (by decide) (by omega) (by omega) (by omega) (fun w5 n5_w5 uu5 => ?_)
  have n4_w5 := (uu5 77 (by omega)).trans n4_w4
  have n1_w5 := (uu5 78 (by omega)).trans n1_w4
  have n3_w5 := (uu5 79 (by omega)).trans n3_w4
  have fr_w5 : ∀ j, j < 77 → w5 j = w j := fun j hj => (uu5 j (by omega)).trans (fr_w4 j hj)
  refine pF_X6_16 X hi eX6_init_26 (by omega) n4_w5 (fun w6 n6_w6 uu6 => ?_)
  have n1_w6 := (uu6 78 (by omega)).trans n1_w5
  have n3_w6 := (uu6 79 (by omega)).trans n3_w5
  have n5_w6 := (uu6 80 (by omega)).trans n5_w5
  have fr_w6 : ∀ j, j < 77 → w6 j = w j := fun j hj => (uu6 j (by omega)).trans (fr_w5 j hj)
  refine r_aload_n X eX6_init_29 rfl ?_
  refine r_bipush X eX6_init_30 (nI 80) (by decide) ?_
  refine r_newI X Y eX6_init_32 (by decide) (by omega) (by omega) (by omega) (fun w7 n7_w7 uu7 => ?_)
  have n6_w7 := (uu7 77 (by omega)).trans n6_w6
  have n1_w7 := (uu7 78 (by omega)).trans n1_w6
  have n3_w7 := (uu7 79 (by omega)).trans n3_w6
  have n5_w7 := (uu7 80 (by omega)).trans n5_w6
  have fr_w7 : ∀ j, j < 77 → w7 j = w j := fun j hj => (uu7 j (by omega)).trans (fr_w6 j hj)
  refine pF_X6_20 X hi eX6_init_34 (by omega) n6_w7 (fun w8 n8_w8 uu8 => ?_)
  have n1_w8 := (uu8 78 (by omega)).trans n1_w7
  have n3_w8 := (uu8 79 (by omega)).trans n3_w7
  have n5_w8 := (uu8 80 (by omega)).trans n5_w7
  have n7_w8 := (uu8 81 (by omega)).trans n7_w7
  have fr_w8 : ∀ j, j < 77 → w8 j = w j := fun j hj => (uu8 j (by omega)).trans (fr_w7 j hj)
  refine r_aload_n X eX6_init_37 rfl ?_
  refine r_bipush X eX6_init_38 (nI 64) (by decide) ?_
  refine r_newI X Y eX6_init_40 (by decide) (by omega) (by omega) (by omega) (fun w9 n9_w9 uu9 => ?_)
  have n8_w9 := (uu9 77 (by omega)).trans n8_w8
  have n1_w9 := (uu9 78 (by omega)).trans n1_w8
  have n3_w9 := (uu9 79 (by omega)).trans n3_w8
  have n5_w9 := (uu9 80 (by omega)).trans n5_w8
  have n7_w9 := (uu9 81 (by omega)).trans n7_w8
  have fr_w9 : ∀ j, j < 77 → w9 j = w j := fun j hj => (uu9 j (by omega)).trans (fr_w8 j hj)
  refine pF_X6_23 X hi eX6_init_42 (by omega) n8_w9 (fun w10 n10_w10 uu10 => ?_)
  have n1_w10 := (uu10 78 (by omega)).trans n1_w9
  have n3_w10 := (uu10 79 (by omega)).trans n3_w9
  have n5_w10 := (uu10 80 (by omega)).trans n5_w9
  have n7_w10 := (uu10 81 (by omega)).trans n7_w9
  have n9_w10 := (uu10 82 (by omega)).trans n9_w9
  have fr_w10 : ∀ j, j < 77 → w10 j = w j := fun j hj => (uu10 j (by omega)).trans (fr_w9 j hj)
  refine r_aload_n X eX6_init_45 rfl ?_
  refine r_bipush X eX6_init_46 (nI 64) (by decide) ?_
  refine r_newI X Y eX6_init_48 (by decide) (by omega) (by omega) (by omega) (fun w11 n11_w11 uu11 => ?_)
  have n10_w11 := (uu11 77 (by omega)).trans n10_w10
  have n1_w11 := (uu11 78 (by omega)).trans n1_w10
  have n3_w11 := (uu11 79 (by omega)).trans n3_w10
  have n5_w11 := (uu11 80 (by omega)).trans n5_w10
  have n7_w11 := (uu11 81 (by omega)).trans n7_w10
  have n9_w11 := (uu11 82 (by omega)).trans n9_w10
  have fr_w11 : ∀ j, j < 77 → w11 j = w j := fun j hj => (uu11 j (by omega)).trans (fr_w10 j hj)
  refine pF_X6_26 X hi eX6_init_50 (by omega) n10_w11 (fun w12 n12_w12 uu12 => ?_)
  have n1_w12 := (uu12 78 (by omega)).trans n1_w11
  have n3_w12 := (uu12 79 (by omega)).trans n3_w11
  have n5_w12 := (uu12 80 (by omega)).trans n5_w11
  have n7_w12 := (uu12 81 (by omega)).trans n7_w11
  have n9_w12 := (uu12 82 (by omega)).trans n9_w11
  have n11_w12 := (uu12 83 (by omega)).trans n11_w11
  have fr_w12 : ∀ j, j < 77 → w12 j = w j := fun j hj => (uu12 j (by omega)).trans (fr_w11 j hj)
  refine r_aload_n X eX6_init_53 rfl ?_
  refine r_bipush X eX6_init_54 (nI 64) (by decide) ?_
  refine r_newI X Y eX6_init_56 (by decide) (by omega) (by omega) (by omega) (fun w13 n13_w13 uu13 => ?_)
  have n12_w13 := (uu13 77 (by omega)).trans n12_w12
  have n1_w13 := (uu13 78 (by omega)).trans n1_w12
  have n3_w13 := (uu13 79 (by omega)).trans n3_w12
  have n5_w13 := (uu13 80 (by omega)).trans n5_w12
  have n7_w13 := (uu13 81 (by omega)).trans n7_w12
  have n9_w13 := (uu13 82 (by omega)).trans n9_w12
  have n11_w13 := (uu13 83 (by omega)).trans n11_w12
  have fr_w13 : ∀ j, j < 77 → w13 j = w j := fun j hj => (uu13 j (by omega)).trans (fr_w12 j hj)
  refine pF_X6_29 X hi eX6_init_58 (by omega) n12_w13 (fun w14 n14_w14 uu14 => ?_)
  have n1_w14 := (uu14 78 (by omega)).trans n1_w13
  have n3_w14 := (uu14 79 (by omega)).trans n3_w13
  have n5_w14 := (uu14 80 (by omega)).trans n5_w13
  have n7_w14 := (uu14 81 (by omega)).trans n7_w13
  have n9_w14 := (uu14 82 (by omega)).trans n9_w13
  have n11_w14 := (uu14 83 (by omega)).trans n11_w13
  have n13_w14 := (uu14 84 (by omega)).trans n13_w13
  have fr_w14 : ∀ j, j < 77 → w14 j = w j := fun j hj => (uu14 j (by omega)).trans (fr_w13 j hj)
  refine r_aload_n X eX6_init_61 rfl ?_
  refine r_bipush X eX6_init_62 (nI 8) (by decide) ?_
  refine r_newI X Y eX6_init_64 (by decide) (by omega) (by omega) (by omega) (fun w15 n15_w15 uu15 => ?_)
  have n14_w15 := (uu15 77 (by omega)).trans n14_w14
  have n1_w15 := (uu15 78 (by omega)).trans n1_w14
  have n3_w15 := (uu15 79 (by omega)).trans n3_w14
  have n5_w15 := (uu15 80 (by omega)).trans n5_w14
  have n7_w15 := (uu15 81 (by omega)).trans n7_w14
  have n9_w15 := (uu15 82 (by omega)).trans n9_w14
  have n11_w15 := (uu15 83 (by omega)).trans n11_w14
  have n13_w15 := (uu15 84 (by omega)).trans n13_w14
  have fr_w15 : ∀ j, j < 77 → w15 j = w j := fun j hj => (uu15 j (by omega)).trans (fr_w14 j hj)
  refine pF_X6_32 X hi eX6_init_66 (by omega) n14_w15 (fun w16 n16_w16 uu16 => ?_)
  have n1_w16 := (uu16 78 (by omega)).trans n1_w15
  have n3_w16 := (uu16 79 (by omega)).trans n3_w15
  have n5_w16 := (uu16 80 (by omega)).trans n5_w15
  have n7_w16 := (uu16 81 (by omega)).trans n7_w15
  have n9_w16 := (uu16 82 (by omega)).trans n9_w15
  have n11_w16 := (uu16 83 (by omega)).trans n11_w15
  have n13_w16 := (uu16 84 (by omega)).trans n13_w15
  have n15_w16 := (uu16 85 (by omega)).trans n15_w15
  have fr_w16 : ∀ j, j < 77 → w16 j = w j := fun j hj => (uu16 j (by omega)).trans (fr_w15 j hj)
  refine r_aload_n X eX6_init_69 rfl ?_
  refine r_sipush X eX6_init_70 (nI 6272) (by decide) ?_
  refine r_newI X Y eX6_init_73 (by decide) (by omega) (by omega) (by omega) (fun w17 n17_w17 uu17 => ?_)
  have n16_w17 := (uu17 77 (by omega)).trans n16_w16
  have n1_w17 := (uu17 78 (by omega)).trans n1_w16
  have n3_w17 := (uu17 79 (by omega)).trans n3_w16
  have n5_w17 := (uu17 80 (by omega)).trans n5_w16
  have n7_w17 := (uu17 81 (by omega)).trans n7_w16
  have n9_w17 := (uu17 82 (by omega)).trans n9_w16
  have n11_w17 := (uu17 83 (by omega)).trans n11_w16
  have n13_w17 := (uu17 84 (by omega)).trans n13_w16
  have n15_w17 := (uu17 85 (by omega)).trans n15_w16
  have fr_w17 : ∀ j, j < 77 → w17 j = w j := fun j hj => (uu17 j (by omega)).trans (fr_w16 j hj)
  refine pF_X6_35 X hi eX6_init_75 (by omega) n16_w17 (fun w18 n18_w18 uu18 => ?_)
  have n1_w18 := (uu18 78 (by omega)).trans n1_w17
  have n3_w18 := (uu18 79 (by omega)).trans n3_w17
  have n5_w18 := (uu18 80 (by omega)).trans n5_w17
  have n7_w18 := (uu18 81 (by omega)).trans n7_w17
  have n9_w18 := (uu18 82 (by omega)).trans n9_w17
  have n11_w18 := (uu18 83 (by omega)).trans n11_w17
  have n13_w18 := (uu18 84 (by omega)).trans n13_w17
  have n15_w18 := (uu18 85 (by omega)).trans n15_w17
  have n17_w18 := (uu18 86 (by omega)).trans n17_w17
  have fr_w18 : ∀ j, j < 77 → w18 j = w j := fun j hj => (uu18 j (by omega)).trans (fr_w17 j hj)
  refine r_aload_n X eX6_init_78 rfl ?_
  refine r_bipush X eX6_init_79 (nI 49) (by decide) ?_
  refine r_newI X Y eX6_init_81 (by decide) (by omega) (by omega) (by omega) (fun w19 n19_w19 uu19 => ?_)
  have n18_w19 := (uu19 77 (by omega)).trans n18_w18
  have n1_w19 := (uu19 78 (by omega)).trans n1_w18
  have n3_w19 := (uu19 79 (by omega)).trans n3_w18
  have n5_w19 := (uu19 80 (by omega)).trans n5_w18
  have n7_w19 := (uu19 81 (by omega)).trans n7_w18
  have n9_w19 := (uu19 82 (by omega)).trans n9_w18
  have n11_w19 := (uu19 83 (by omega)).trans n11_w18
  have n13_w19 := (uu19 84 (by omega)).trans n13_w18
  have n15_w19 := (uu19 85 (by omega)).trans n15_w18
  have n17_w19 := (uu19 86 (by omega)).trans n17_w18
  have fr_w19 : ∀ j, j < 77 → w19 j = w j := fun j hj => (uu19 j (by omega)).trans (fr_w18 j hj)
  refine pF_X6_38 X hi eX6_init_83 (by omega) n18_w19 (fun w20 n20_w20 uu20 => ?_)
  have n1_w20 := (uu20 78 (by omega)).trans n1_w19
  have n3_w20 := (uu20 79 (by omega)).trans n3_w19
  have n5_w20 := (uu20 80 (by omega)).trans n5_w19
  have n7_w20 := (uu20 81 (by omega)).trans n7_w19
  have n9_w20 := (uu20 82 (by omega)).trans n9_w19
  have n11_w20 := (uu20 83 (by omega)).trans n11_w19
  have n13_w20 := (uu20 84 (by omega)).trans n13_w19
  have n15_w20 := (uu20 85 (by omega)).trans n15_w19
  have n17_w20 := (uu20 86 (by omega)).trans n17_w19
  have n19_w20 := (uu20 87 (by omega)).trans n19_w19
  have fr_w20 : ∀ j, j < 77 → w20 j = w j := fun j hj => (uu20 j (by omega)).trans (fr_w19 j hj)
  refine r_aload_n X eX6_init_86 rfl ?_
  refine gf_X6_7 X eX6_init_87 (by omega) n20_w20 ?_
  refine r_sipush X eX6_init_90 (nI 128) (by decide) ?_
  refine r_iconst X eX6_init_93 (nI 4) (by decide) ?_
  refine r_iast X eX6_init_94 (by omega) n1_w20 (by omega) (by decide) (fun w21 n21_w21 uu21 => ?_)
  have n20_w21 := (uu21 77 (by omega)).trans n20_w20
  have n3_w21 := (uu21 79 (by omega)).trans n3_w20
  have n5_w21 := (uu21 80 (by omega)).trans n5_w20
  have n7_w21 := (uu21 81 (by omega)).trans n7_w20
  have n9_w21 := (uu21 82 (by omega)).trans n9_w20
  have n11_w21 := (uu21 83 (by omega)).trans n11_w20
  have n13_w21 := (uu21 84 (by omega)).trans n13_w20
  have n15_w21 := (uu21 85 (by omega)).trans n15_w20
  have n17_w21 := (uu21 86 (by omega)).trans n17_w20
  have n19_w21 := (uu21 87 (by omega)).trans n19_w20
  have fr_w21 : ∀ j, j < 77 → w21 j = w j := fun j hj => (uu21 j (by omega)).trans (fr_w20 j hj)
  refine r_aload_n X eX6_init_95 rfl ?_
  refine gf_X6_7 X eX6_init_96 (by omega) n20_w21 ?_
  refine r_sipush X eX6_init_99 (nI 129) (by decide) ?_
  refine r_iconst X eX6_init_102 (nI 4) (by decide) ?_
  refine r_iast X eX6_init_103 (by omega) n21_w21 (by omega) (by decide) (fun w22 n22_w22 uu22 => ?_)
  have n20_w22 := (uu22 77 (by omega)).trans n20_w21
  have n3_w22 := (uu22 79 (by omega)).trans n3_w21
  have n5_w22 := (uu22 80 (by omega)).trans n5_w21
  have n7_w22 := (uu22 81 (by omega)).trans n7_w21
  have n9_w22 := (uu22 82 (by omega)).trans n9_w21
  have n11_w22 := (uu22 83 (by omega)).trans n11_w21
  have n13_w22 := (uu22 84 (by omega)).trans n13_w21
  have n15_w22 := (uu22 85 (by omega)).trans n15_w21
  have n17_w22 := (uu22 86 (by omega)).trans n17_w21
  have n19_w22 := (uu22 87 (by omega)).trans n19_w21
  have fr_w22 : ∀ j, j < 77 → w22 j = w j := fun j hj => (uu22 j (by omega)).trans (fr_w21 j hj)
  refine r_nu (ν2 := (78 + 10, 10, 6996)) (nu_eq (by omega) (by omega) (by omega)) ?_
  exact ret _ _ _ _ eX6_init_104 (⟨⟨0, 0, nI 0, nI 0, nI 0, nI 0, nI 0, nI 0, _, _, _, _, _, _, _, _, ⟨n20_w22, n22_w22, n3_w22, n5_w22, n7_w22, n9_w22, n11_w22, n13_w22, n15_w22, n17_w22, n19_w22⟩, stI0, fun k _ h => absurd rfl h, by decide⟩, fr_w22⟩)
