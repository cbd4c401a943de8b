section RUN
variable {κ : Kx} {G : Gs} {b k sl : Nat} {cx : Cond} {a Ln : Nat} {xs : Nat → Int32}
theorem inc4 (i : Nat) : nI i + Int32.ofInt 4 = nI (i + 4) := by
  rw [show Int32.ofInt 4 = nI 4 by decide]
  exact addN rfl
set_option maxHeartbeats 4000000 in
set_option maxRecDepth 100000 in
theorem law_loop (X : CX κ G cL_law 4 RL cx 20) (hz : κ.2.1.1.heap.size = b) (hX : va_X a Ln xs κ.2.1.1 κ.2.1.1.heap) (ha : a < b) (hLn : Ln ≤ 2048) (hc : k ≤ κ.1.2.2.2.cells) (hs : sl ≤ κ.1.2.2.2.slots) (ret : ∀ (w : Wd) (L : List (Option Value)), V κ G b (88, k, sl) w 735 L [.int 1]) : ∀ (fu i : Nat) (w : Wd) (S : Sg), sysC G b w S → sysM G b w S → i ≤ Ln + 4 → Ln + 4 - i < fu → V κ G b (88, k, sl) w 18 [some (.ref a), some (.ref (b + 0)), some (.ref (b + 77)), some (.int (nI i))] [] := by
  intro fu
  induction fu with
  | zero => intro i w S hC hM hi hm; exact absurd hm (Nat.not_lt_zero _)
  | succ fu ih =>
    intro i w S hC hM hi hm
    refine r_iload_n X eL_law_18 rfl ?_
    refine r_aload_n X eL_law_19 rfl ?_
    refine r_slen X hX ha hz eL_law_20 ?_
    refine r_iconst X eL_law_21 (nI 4) (by decide) ?_
    refine r_isub X eL_law_22 (nI Ln - nI 4) rfl ?_
    refine r_icmp_gt (tgt := 734) X eL_law_23 (by decide) (nI_toInt (by omega)) (sub4 hLn) (fun c => ?_) (fun c => ?_)
    · refine r_iconst X eL_law_734 1 (by decide) ?_
      exact ret _ _
    · have hi4 : i + 4 ≤ Ln := by omega
      have K : ∀ (S2 : Sg) (w2 : Wd), sysC G b w2 S2 → sysM G b w2 S2 → V κ G b (88, k, sl) w2 728 [some (.ref a), some (.ref (b + 0)), some (.ref (b + 77)), some (.int (nI i))] [] := by
        intro S2 w2 h1 h2
        refine r_iinc X eL_law_728 rfl (nI (i + 4)) (inc4 i) (L2 := [some (.ref a), some (.ref (b + 0)), some (.ref (b + 77)), some (.int (nI (i + 4)))]) rfl ?_
        refine r_goto (tgt := 18) X eL_law_731 (by decide) ?_
        exact ih (i + 4) w2 S2 h1 h2 (by omega) (by omega)
      refine r_aload_n X eL_law_26 rfl ?_
      refine r_iload_n X eL_law_27 rfl ?_
      refine r_sld X hX ha hz eL_law_28 (by omega) hLn ?_
      refine r_bipush X eL_law_29 (nI 31) (by decide) ?_
      refine r_iand X eL_law_31 (xs i &&& nI 31) rfl ?_
      generalize xs i &&& nI 31 = v
      by_cases s0 : v.toInt = 0
      · exact r_tabIn (tgt := 128) X eL_law_32 0 s0 (by decide) (by decide) rfl (by decide) (law_0 X hz hX ha hLn hc hs hi4 hC hM K)
      by_cases s1 : v.toInt = 1
      · exact r_tabIn (tgt := 161) X eL_law_32 1 s1 (by decide) (by decide) rfl (by decide) (law_1 X hz hX ha hLn hc hs hi4 hC hM K)
      by_cases s2 : v.toInt = 2
      · exact r_tabIn (tgt := 204) X eL_law_32 2 s2 (by decide) (by decide) rfl (by decide) (law_2 X hz hX ha hLn hc hs hi4 hC hM K)
      by_cases s3 : v.toInt = 3
      · exact r_tabIn (tgt := 247) X eL_law_32 3 s3 (by decide) (by decide) rfl (by decide) (law_3 X hz hX ha hLn hc hs hi4 hC hM K)
      by_cases s4 : v.toInt = 4
      · exact r_tabIn (tgt := 270) X eL_law_32 4 s4 (by decide) (by decide) rfl (by decide) (law_4 X hz hX ha hLn hc hs hi4 hC hM K)
      by_cases s5 : v.toInt = 5
      · exact r_tabIn (tgt := 313) X eL_law_32 5 s5 (by decide) (by decide) rfl (by decide) (law_5 X hz hX ha hLn hc hs hi4 hC hM K)
      by_cases s6 : v.toInt = 6
      · exact r_tabIn (tgt := 336) X eL_law_32 6 s6 (by decide) (by decide) rfl (by decide) (law_6 X hz hX ha hLn hc hs hi4 hC hM K)
      by_cases s7 : v.toInt = 7
      · exact r_tabIn (tgt := 349) X eL_law_32 7 s7 (by decide) (by decide) rfl (by decide) (law_7 X hz hX ha hLn hc hs hi4 hC hM K)
      by_cases s8 : v.toInt = 8
      · exact r_tabIn (tgt := 372) X eL_law_32 8 s8 (by decide) (by decide) rfl (by decide) (law_8 X hz hX ha hLn hc hs hi4 hC hM K)
      by_cases s9 : v.toInt = 9
      · exact r_tabIn (tgt := 395) X eL_law_32 9 s9 (by decide) (by decide) rfl (by decide) (law_9 X hz hX ha hLn hc hs hi4 hC hM K)
      by_cases s10 : v.toInt = 10
      · exact r_tabIn (tgt := 428) X eL_law_32 10 s10 (by decide) (by decide) rfl (by decide) (law_10 X hz hX ha hLn hc hs hi4 hC hM K)
      by_cases s11 : v.toInt = 11
      · exact r_tabIn (tgt := 461) X eL_law_32 11 s11 (by decide) (by decide) rfl (by decide) (law_11 X hz hX ha hLn hc hs hi4 hC hM K)
      by_cases s12 : v.toInt = 12
      · exact r_tabIn (tgt := 484) X eL_law_32 12 s12 (by decide) (by decide) rfl (by decide) (law_12 X hz hX ha hLn hc hs hi4 hC hM K)
      by_cases s13 : v.toInt = 13
      · exact r_tabIn (tgt := 507) X eL_law_32 13 s13 (by decide) (by decide) rfl (by decide) (law_13 X hz hX ha hLn hc hs hi4 hC hM K)
      by_cases s14 : v.toInt = 14
      · exact r_tabIn (tgt := 540) X eL_law_32 14 s14 (by decide) (by decide) rfl (by decide) (law_14 X hz hX ha hLn hc hs hi4 hC hM K)
      by_cases s15 : v.toInt = 15
      · exact r_tabIn (tgt := 583) X eL_law_32 15 s15 (by decide) (by decide) rfl (by decide) (law_15 X hz hX ha hLn hc hs hi4 hC hM K)
      by_cases s16 : v.toInt = 16
      · exact r_tabIn (tgt := 626) X eL_law_32 16 s16 (by decide) (by decide) rfl (by decide) (law_16 X hz hX ha hLn hc hs hi4 hC hM K)
      by_cases s17 : v.toInt = 17
      · exact r_tabIn (tgt := 659) X eL_law_32 17 s17 (by decide) (by decide) rfl (by decide) (law_17 X hz hX ha hLn hc hs hi4 hC hM K)
      by_cases s18 : v.toInt = 18
      · exact r_tabIn (tgt := 682) X eL_law_32 18 s18 (by decide) (by decide) rfl (by decide) (law_18 X hz hX ha hLn hc hs hi4 hC hM K)
      by_cases s19 : v.toInt = 19
      · exact r_tabIn (tgt := 705) X eL_law_32 19 s19 (by decide) (by decide) rfl (by decide) (law_19 X hz hX ha hLn hc hs hi4 hC hM K)
      exact r_tabOut (tgt := 728) X eL_law_32 (by omega) (by decide) (K S w hC hM)
set_option maxHeartbeats 4000000 in
set_option maxRecDepth 100000 in
theorem law_run (X : CX κ G cL_law 4 RL cx 20) (hz : κ.2.1.1.heap.size = b) (hX : va_X a Ln xs κ.2.1.1 κ.2.1.1.heap) (ha : a < b) (hLn : Ln ≤ 2048) (Y : CN κ b 0 600000 7302250) (ret : ∀ (w : Wd) (L : List (Option Value)), V κ G b (88, 88, 9964) w 735 L [.int 1]) (w : Wd) : V κ G b (0, 0, 0) w 0 [some (.ref a), none, none, none] [] := by
  refine nw_L_7 X Y eL_law_0 (by omega) (by omega) (by omega) (fun w1 n1 u1 => ?_)
  refine r_dup X eL_law_3 rfl ?_
  refine kc_L_9 X Y eL_law_4 (c_X5_init _ G b w1 n1) (by decide) rfl (Nat.le_of_ble_eq_true rfl) (by omega) (by omega) (by omega) (fun w2 hp => ?_)
  obtain ⟨hC, _⟩ := hp
  refine r_nu (ν2 := (77, 77, 2949)) (nu_eq (by omega) (by omega) (by omega)) ?_
  refine r_astore_n X eL_law_7 (Nat.le_of_ble_eq_true rfl) (L2 := [some (.ref a), some (.ref (b + 0)), none, none]) rfl ?_
  refine nw_L_10 X Y eL_law_8 (by omega) (by omega) (by omega) (fun w3 n3 u3 => ?_)
  refine r_dup X eL_law_11 rfl ?_
  refine kc_L_12 X Y eL_law_12 (c_X6_init _ G b w3 n3) (by decide) rfl (Nat.le_of_ble_eq_true rfl) (by omega) (by omega) (by omega) (fun w4 hp => ?_)
  obtain ⟨hM, u4⟩ := hp
  have hC4 := (hC.fr (fun j hj => u3 j (by omega))).fr (fun j hj => u4 j hj)
  refine r_nu (ν2 := (88, 88, 9964)) (nu_eq (by omega) (by omega) (by omega)) ?_
  refine r_astore_n X eL_law_15 (Nat.le_of_ble_eq_true rfl) (L2 := [some (.ref a), some (.ref (b + 0)), some (.ref (b + 77)), none]) rfl ?_
  refine r_iconst X eL_law_16 (nI 0) (by decide) ?_
  refine r_istore_n X eL_law_17 (Nat.le_of_ble_eq_true rfl) (L2 := [some (.ref a), some (.ref (b + 0)), some (.ref (b + 77)), some (.int (nI 0))]) rfl ?_
  exact law_loop X hz hX ha hLn (by rw [Y.2.1]; omega) (by rw [Y.2.2.1]; omega) ret _ 0 w4 S0 hC4 hM (by omega) (Nat.lt_succ_self _)
end RUN
