abbrev P0 : Pc := (4, 4, fun _ _ => 0, fun _ _ => 0)
theorem nu_eq {a a2 c c2 d d2 : Nat} (h1 : a = a2) (h2 : c = c2) (h3 : d = d2) : (a, c, d) = (a2, c2, d2) := by rw [h1, h2, h3]
theorem r_nu {κ : Kx} {G : Gs} {b : Nat} {ν ν2 : Nat × Nat × Nat} {w : Wd} {pc : Nat} {L : List (Option Value)} {st : List Value} (e : ν = ν2) (k : V κ G b ν2 w pc L st) : V κ G b ν w pc L st := by rw [e]; exact k
theorem isP.cell {G : Gs} {b : Nat} {w : Wd} {k lw : Nat} {P : Pc} (h : isP G b w k lw P) : ∃ fs, w k = .inr (3, fs) := by
  obtain ⟨ga, ma, h, _⟩ := h
  exact ⟨_, h.1⟩
theorem isP0 {G : Gs} {b : Nat} {w : Wd} {k : Nat} (h1 : w k = .inr (3, [.int (nI 4), .int (nI 4), .int (nI 0), .ref (b + (k + 1)), .ref (b + (k + 2))])) (h2 : w (k + 1) = aI G 64 (fun _ => 0)) (h3 : w (k + 2) = aI G 64 (fun _ => 0)) : isP G b w k 0 P0 := ⟨_, _, ⟨h1, h2, h3, by decide, by decide, by decide, by decide, by decide⟩, fun _ _ _ _ => ⟨rfl, rfl⟩⟩
theorem arrV_same {cA : ClassId} {n : Nat} {f g : Nat → Value} (h : ∀ j, j < n → f j = g j) : arrV cA n f = arrV cA n g := by
  simp only [arrV]
  congr 1
  apply Array.ext
  · simp
  · intro i h1 h2
    simp at h1
    simp [h i h1]
theorem r_ext {κ : Kx} {G : Gs} {b : Nat} {ν : Nat × Nat × Nat} {w : Wd} {pc : Nat} {L : List (Option Value)} {st : List Value} {q n : Nat} {f g : Nat → Option Nat} (he : w q = aP G n f) (hfg : ∀ j, j < n → f j = g j) (k : ∀ w2 : Wd, w2 q = aP G n g → (∀ j, j ≠ q → w2 j = w j) → V κ G b ν w2 pc L st) : V κ G b ν w pc L st := by
  intro H locs ls a1 a2 a3
  refine k (va_up w q (aP G n g)) (va_up_self _ _ _) (fun j hj => va_up_ne _ _ hj) H locs ls (fun i x hx => ?_) a2 a3
  have hi : i < ν.1 := by
    have := (List.getElem?_eq_some_iff.mp hx).1
    simpa [wl] using this
  rw [wl_get hi] at hx
  cases hx
  have h := a1 i _ (wl_get hi)
  by_cases e : i = q
  · subst e
    rw [va_up_self]
    rw [he] at h
    have h' : H[b + i]? = some (vp_cell G.2.2.2 (n, .inr (.inr (.inr (.inr f))))) := h
    show H[b + i]? = some (vp_cell G.2.2.2 (n, .inr (.inr (.inr (.inr g)))))
    rw [h', vp_cell_q, vp_cell_q]
    exact congrArg some (arrV_same (fun j hj => by rw [hfg j hj]))
  · rw [va_up_ne _ _ e]
    exact h
section ISITES
variable {κ : Kx} {G : Gs} {b N N0 k sl mc ms : Nat} {cc : ByteArray} {nL : Nat} {cx : Cond} {h : Nat} {ν : Nat × Nat × Nat} {w : Wd} {pc pc2 : Nat} {L L2 : List (Option Value)} {st : List Value}
theorem kc_L_9 (X : CX κ G cc nL RL cx h) (Y : CN κ b N0 mc ms) (d : Dc cc pc (.invokespecial 9) 3 pc2) {q mc1 ms1 hc : Nat} {post : Wd → Prop} (hM : CK κ.1.2.1 yX5_init cX5_init 2 hc G b N w [.ref (b + q)] mc1 ms1 post) (hR : hc + 1 ≤ h) (hnL : L.length = nL) (hcat : (st.map fun v => v.category).sum ≤ 8) (hN : N = N0 + k) (hk : k + mc1 ≤ mc) (hs : sl + ms1 ≤ ms) (kk : ∀ w2 : Wd, post w2 → V κ G b (N + mc1, k + mc1, sl + ms1) w2 pc2 L st) : V κ G b (N, k, sl) w pc L (.ref (b + q) :: st) := r_callN X Y hM d qw_6 qw_7 qw_2 qw_8 rfl (by decide +kernel) hR (by decide) hnL hcat hN hk hs kk
theorem kc_L_12 (X : CX κ G cc nL RL cx h) (Y : CN κ b N0 mc ms) (d : Dc cc pc (.invokespecial 12) 3 pc2) {q mc1 ms1 hc : Nat} {post : Wd → Prop} (hM : CK κ.1.2.1 yX6_init cX6_init 1 hc G b N w [.ref (b + q)] mc1 ms1 post) (hR : hc + 1 ≤ h) (hnL : L.length = nL) (hcat : (st.map fun v => v.category).sum ≤ 8) (hN : N = N0 + k) (hk : k + mc1 ≤ mc) (hs : sl + ms1 ≤ ms) (kk : ∀ w2 : Wd, post w2 → V κ G b (N + mc1, k + mc1, sl + ms1) w2 pc2 L st) : V κ G b (N, k, sl) w pc L (.ref (b + q) :: st) := r_callN X Y hM d qw_78 qw_79 qw_5 qw_80 rfl (by decide +kernel) hR (by decide) hnL hcat hN hk hs kk
theorem dfX5_L : ∀ j, j < 7 → defaultValue (tyX5 j) = vp_V [.null, .null, .null, .null, .null, .null, .null] j := fun j hj => match j, hj with
    | 0, _ => rfl
    | 1, _ => rfl
    | 2, _ => rfl
    | 3, _ => rfl
    | 4, _ => rfl
    | 5, _ => rfl
    | 6, _ => rfl
    | j + 7, h => absurd h (by omega)
theorem nw_L_7 (X : CX κ G cc nL RL cx h) (Y : CN κ b N0 mc ms) (d : Dc cc pc (.new 7) 3 pc2) (hN : N = N0 + k) (hk : k + 1 ≤ mc) (hs : sl + 7 ≤ ms) (kk : ∀ w2 : Wd, w2 N = .inr (5, [.null, .null, .null, .null, .null, .null, .null]) → (∀ j, j ≠ N → w2 j = w j) → V κ G b (N + 1, k + 1, sl + 7) w2 pc2 L (.ref (b + N) :: st)) : V κ G b (N, k, sl) w pc L st := r_new X Y d rfl inlX5 tyX5 tyX5_ok qw_0 qw_1 qw_2 dfX5_L hN hk hs kk
theorem dfX6_L : ∀ j, j < 19 → defaultValue (tyX6 j) = vp_V [.null, .null, .null, .null, .int (nI 0), .null, .null, .int (nI 0), .int (nI 0), .null, .null, .int (nI 0), .int (nI 0), .int (nI 0), .int (nI 0), .int (nI 0), .int (nI 0), .null, .null] j := fun j hj => match j, hj with
    | 0, _ => rfl
    | 1, _ => rfl
    | 2, _ => rfl
    | 3, _ => rfl
    | 4, _ => rfl
    | 5, _ => rfl
    | 6, _ => rfl
    | 7, _ => rfl
    | 8, _ => rfl
    | 9, _ => rfl
    | 10, _ => rfl
    | 11, _ => rfl
    | 12, _ => rfl
    | 13, _ => rfl
    | 14, _ => rfl
    | 15, _ => rfl
    | 16, _ => rfl
    | 17, _ => rfl
    | 18, _ => rfl
    | j + 19, h => absurd h (by omega)
theorem nw_L_10 (X : CX κ G cc nL RL cx h) (Y : CN κ b N0 mc ms) (d : Dc cc pc (.new 10) 3 pc2) (hN : N = N0 + k) (hk : k + 1 ≤ mc) (hs : sl + 19 ≤ ms) (kk : ∀ w2 : Wd, w2 N = .inr (6, [.null, .null, .null, .null, .int (nI 0), .null, .null, .int (nI 0), .int (nI 0), .null, .null, .int (nI 0), .int (nI 0), .int (nI 0), .int (nI 0), .int (nI 0), .int (nI 0), .null, .null]) → (∀ j, j ≠ N → w2 j = w j) → V κ G b (N + 1, k + 1, sl + 19) w2 pc2 L (.ref (b + N) :: st)) : V κ G b (N, k, sl) w pc L st := r_new X Y d rfl inlX6 tyX6 tyX6_ok qw_3 qw_4 qw_5 dfX6_L hN hk hs kk
theorem kc_X0_17 (X : CX κ G cc nL RX0 cx h) (Y : CN κ b N0 mc ms) (d : Dc cc pc (.invokespecial 17) 3 pc2) {q mc1 ms1 hc : Nat} {post : Wd → Prop} (hM : CK κ.1.2.1 yX3_init cX3_init 1 hc G b N w [.ref (b + q)] mc1 ms1 post) (hR : hc + 1 ≤ h) (hnL : L.length = nL) (hcat : (st.map fun v => v.category).sum ≤ 8) (hN : N = N0 + k) (hk : k + mc1 ≤ mc) (hs : sl + ms1 ≤ ms) (kk : ∀ w2 : Wd, post w2 → V κ G b (N + mc1, k + mc1, sl + ms1) w2 pc2 L st) : V κ G b (N, k, sl) w pc L (.ref (b + q) :: st) := r_callN X Y hM d qw_76 qw_36 qw_14 qw_37 rfl (by decide +kernel) hR (by decide) hnL hcat hN hk hs kk
theorem kc_X0_24 (X : CX κ G cc nL RX0 cx h) (Y : CN κ b N0 mc ms) (d : Dc cc pc (.invokespecial 24) 3 pc2) {q mc1 ms1 hc : Nat} {post : Wd → Prop} (hM : CK κ.1.2.1 yX4_init cX4_init 1 hc G b N w [.ref (b + q)] mc1 ms1 post) (hR : hc + 1 ≤ h) (hnL : L.length = nL) (hcat : (st.map fun v => v.category).sum ≤ 8) (hN : N = N0 + k) (hk : k + mc1 ≤ mc) (hs : sl + ms1 ≤ ms) (kk : ∀ w2 : Wd, post w2 → V κ G b (N + mc1, k + mc1, sl + ms1) w2 pc2 L st) : V κ G b (N, k, sl) w pc L (.ref (b + q) :: st) := r_callN X Y hM d qw_77 qw_45 qw_18 qw_46 rfl (by decide +kernel) hR (by decide) hnL hcat hN hk hs kk
theorem dfX3_X0 : ∀ j, j < 5 → defaultValue (tyX3 j) = vp_V [.int (nI 0), .int (nI 0), .int (nI 0), .null, .null] j := fun j hj => match j, hj with
    | 0, _ => rfl
    | 1, _ => rfl
    | 2, _ => rfl
    | 3, _ => rfl
    | 4, _ => rfl
    | j + 5, h => absurd h (by omega)
theorem nw_X0_9 (X : CX κ G cc nL RX0 cx h) (Y : CN κ b N0 mc ms) (d : Dc cc pc (.new 9) 3 pc2) (hN : N = N0 + k) (hk : k + 1 ≤ mc) (hs : sl + 5 ≤ ms) (kk : ∀ w2 : Wd, w2 N = .inr (3, [.int (nI 0), .int (nI 0), .int (nI 0), .null, .null]) → (∀ j, j ≠ N → w2 j = w j) → V κ G b (N + 1, k + 1, sl + 5) w2 pc2 L (.ref (b + N) :: st)) : V κ G b (N, k, sl) w pc L st := r_new X Y d rfl inlX3 tyX3 tyX3_ok qw_70 qw_13 qw_14 dfX3_X0 hN hk hs kk
theorem dfX4_X0 : ∀ j, j < 5 → defaultValue (tyX4 j) = vp_V [.int (nI 0), .int (nI 0), .null, .null, .null] j := fun j hj => match j, hj with
    | 0, _ => rfl
    | 1, _ => rfl
    | 2, _ => rfl
    | 3, _ => rfl
    | 4, _ => rfl
    | j + 5, h => absurd h (by omega)
theorem nw_X0_22 (X : CX κ G cc nL RX0 cx h) (Y : CN κ b N0 mc ms) (d : Dc cc pc (.new 22) 3 pc2) (hN : N = N0 + k) (hk : k + 1 ≤ mc) (hs : sl + 5 ≤ ms) (kk : ∀ w2 : Wd, w2 N = .inr (4, [.int (nI 0), .int (nI 0), .null, .null, .null]) → (∀ j, j ≠ N → w2 j = w j) → V κ G b (N + 1, k + 1, sl + 5) w2 pc2 L (.ref (b + N) :: st)) : V κ G b (N, k, sl) w pc L st := r_new X Y d rfl inlX4 tyX4 tyX4_ok qw_73 qw_17 qw_18 dfX4_X0 hN hk hs kk
theorem pF_X0_11 (X : CX κ G cc nL RX0 cx h) (hi : κ.2.2.1.name = "<init>") (d : Dc cc pc (.putfield 11) 3 pc2) {q a : Nat} {v0 v1 v2 v3 : Value} (hq : q < ν.1) (he : w q = .inr (0, [v0, v1, v2, v3])) (k : ∀ w2 : Wd, w2 q = .inr (0, [.ref a, v1, v2, v3]) → (∀ j, j ≠ q → w2 j = w j) → V κ G b ν w2 pc2 L st) : V κ G b ν w pc L (.ref a :: .ref (b + q) :: st) := r_putF X hi d rfl inlX0 tyX0 tyX0_ok nmX0 0 (by decide) qw_71 rfl rfl hq he rfl rfl (Nat.le_of_ble_eq_true rfl) rfl k
theorem pF_X0_18 (X : CX κ G cc nL RX0 cx h) (hi : κ.2.2.1.name = "<init>") (d : Dc cc pc (.putfield 18) 3 pc2) {q a : Nat} {v0 v1 v2 v3 : Value} (hq : q < ν.1) (he : w q = .inr (0, [v0, v1, v2, v3])) (k : ∀ w2 : Wd, w2 q = .inr (0, [v0, .ref a, v2, v3]) → (∀ j, j ≠ q → w2 j = w j) → V κ G b ν w2 pc2 L st) : V κ G b ν w pc L (.ref a :: .ref (b + q) :: st) := r_putF X hi d rfl inlX0 tyX0 tyX0_ok nmX0 1 (by decide) qw_72 rfl rfl hq he rfl rfl (Nat.le_of_ble_eq_true rfl) rfl k
theorem pF_X0_25 (X : CX κ G cc nL RX0 cx h) (hi : κ.2.2.1.name = "<init>") (d : Dc cc pc (.putfield 25) 3 pc2) {q a : Nat} {v0 v1 v2 v3 : Value} (hq : q < ν.1) (he : w q = .inr (0, [v0, v1, v2, v3])) (k : ∀ w2 : Wd, w2 q = .inr (0, [v0, v1, .ref a, v3]) → (∀ j, j ≠ q → w2 j = w j) → V κ G b ν w2 pc2 L st) : V κ G b ν w pc L (.ref a :: .ref (b + q) :: st) := r_putF X hi d rfl inlX0 tyX0 tyX0_ok nmX0 2 (by decide) qw_74 rfl rfl hq he rfl rfl (Nat.le_of_ble_eq_true rfl) rfl k
theorem pF_X0_29 (X : CX κ G cc nL RX0 cx h) (hi : κ.2.2.1.name = "<init>") (d : Dc cc pc (.putfield 29) 3 pc2) {q a : Nat} {v0 v1 v2 v3 : Value} (hq : q < ν.1) (he : w q = .inr (0, [v0, v1, v2, v3])) (k : ∀ w2 : Wd, w2 q = .inr (0, [v0, v1, v2, .ref a]) → (∀ j, j ≠ q → w2 j = w j) → V κ G b ν w2 pc2 L st) : V κ G b ν w pc L (.ref a :: .ref (b + q) :: st) := r_putF X hi d rfl inlX0 tyX0 tyX0_ok nmX0 3 (by decide) qw_75 rfl rfl hq he rfl rfl (Nat.le_of_ble_eq_true rfl) rfl k
theorem kc_X1_17 (X : CX κ G cc nL RX1 cx h) (Y : CN κ b N0 mc ms) (d : Dc cc pc (.invokespecial 17) 3 pc2) {q mc1 ms1 hc : Nat} {post : Wd → Prop} (hM : CK κ.1.2.1 yX3_init cX3_init 1 hc G b N w [.ref (b + q)] mc1 ms1 post) (hR : hc + 1 ≤ h) (hnL : L.length = nL) (hcat : (st.map fun v => v.category).sum ≤ 8) (hN : N = N0 + k) (hk : k + mc1 ≤ mc) (hs : sl + ms1 ≤ ms) (kk : ∀ w2 : Wd, post w2 → V κ G b (N + mc1, k + mc1, sl + ms1) w2 pc2 L st) : V κ G b (N, k, sl) w pc L (.ref (b + q) :: st) := r_callN X Y hM d qw_64 qw_36 qw_14 qw_37 rfl (by decide +kernel) hR (by decide) hnL hcat hN hk hs kk
theorem kc_X1_20 (X : CX κ G cc nL RX1 cx h) (Y : CN κ b N0 mc ms) (d : Dc cc pc (.invokespecial 20) 3 pc2) {q mc1 ms1 hc : Nat} {post : Wd → Prop} (hM : CK κ.1.2.1 yX4_init cX4_init 1 hc G b N w [.ref (b + q)] mc1 ms1 post) (hR : hc + 1 ≤ h) (hnL : L.length = nL) (hcat : (st.map fun v => v.category).sum ≤ 8) (hN : N = N0 + k) (hk : k + mc1 ≤ mc) (hs : sl + ms1 ≤ ms) (kk : ∀ w2 : Wd, post w2 → V κ G b (N + mc1, k + mc1, sl + ms1) w2 pc2 L st) : V κ G b (N, k, sl) w pc L (.ref (b + q) :: st) := r_callN X Y hM d qw_65 qw_45 qw_18 qw_46 rfl (by decide +kernel) hR (by decide) hnL hcat hN hk hs kk
theorem dfX3_X1 : ∀ j, j < 5 → defaultValue (tyX3 j) = vp_V [.int (nI 0), .int (nI 0), .int (nI 0), .null, .null] j := fun j hj => match j, hj with
    | 0, _ => rfl
    | 1, _ => rfl
    | 2, _ => rfl
    | 3, _ => rfl
    | 4, _ => rfl
    | j + 5, h => absurd h (by omega)
theorem nw_X1_9 (X : CX κ G cc nL RX1 cx h) (Y : CN κ b N0 mc ms) (d : Dc cc pc (.new 9) 3 pc2) (hN : N = N0 + k) (hk : k + 1 ≤ mc) (hs : sl + 5 ≤ ms) (kk : ∀ w2 : Wd, w2 N = .inr (3, [.int (nI 0), .int (nI 0), .int (nI 0), .null, .null]) → (∀ j, j ≠ N → w2 j = w j) → V κ G b (N + 1, k + 1, sl + 5) w2 pc2 L (.ref (b + N) :: st)) : V κ G b (N, k, sl) w pc L st := r_new X Y d rfl inlX3 tyX3 tyX3_ok qw_60 qw_13 qw_14 dfX3_X1 hN hk hs kk
theorem dfX4_X1 : ∀ j, j < 5 → defaultValue (tyX4 j) = vp_V [.int (nI 0), .int (nI 0), .null, .null, .null] j := fun j hj => match j, hj with
    | 0, _ => rfl
    | 1, _ => rfl
    | 2, _ => rfl
    | 3, _ => rfl
    | 4, _ => rfl
    | j + 5, h => absurd h (by omega)
theorem nw_X1_18 (X : CX κ G cc nL RX1 cx h) (Y : CN κ b N0 mc ms) (d : Dc cc pc (.new 18) 3 pc2) (hN : N = N0 + k) (hk : k + 1 ≤ mc) (hs : sl + 5 ≤ ms) (kk : ∀ w2 : Wd, w2 N = .inr (4, [.int (nI 0), .int (nI 0), .null, .null, .null]) → (∀ j, j ≠ N → w2 j = w j) → V κ G b (N + 1, k + 1, sl + 5) w2 pc2 L (.ref (b + N) :: st)) : V κ G b (N, k, sl) w pc L st := r_new X Y d rfl inlX4 tyX4 tyX4_ok qw_62 qw_17 qw_18 dfX4_X1 hN hk hs kk
theorem pF_X1_11 (X : CX κ G cc nL RX1 cx h) (hi : κ.2.2.1.name = "<init>") (d : Dc cc pc (.putfield 11) 3 pc2) {q a : Nat} {v0 v1 v2 v3 v4 v5 : Value} (hq : q < ν.1) (he : w q = .inr (1, [v0, v1, v2, v3, v4, v5])) (k : ∀ w2 : Wd, w2 q = .inr (1, [v0, v1, v2, v3, .ref a, v5]) → (∀ j, j ≠ q → w2 j = w j) → V κ G b ν w2 pc2 L st) : V κ G b ν w pc L (.ref a :: .ref (b + q) :: st) := r_putF X hi d rfl inlX1 tyX1 tyX1_ok nmX1 4 (by decide) qw_61 rfl rfl hq he rfl rfl (Nat.le_of_ble_eq_true rfl) rfl k
theorem pF_X1_21 (X : CX κ G cc nL RX1 cx h) (hi : κ.2.2.1.name = "<init>") (d : Dc cc pc (.putfield 21) 3 pc2) {q a : Nat} {v0 v1 v2 v3 v4 v5 : Value} (hq : q < ν.1) (he : w q = .inr (1, [v0, v1, v2, v3, v4, v5])) (k : ∀ w2 : Wd, w2 q = .inr (1, [v0, v1, v2, v3, v4, .ref a]) → (∀ j, j ≠ q → w2 j = w j) → V κ G b ν w2 pc2 L st) : V κ G b ν w pc L (.ref a :: .ref (b + q) :: st) := r_putF X hi d rfl inlX1 tyX1 tyX1_ok nmX1 5 (by decide) qw_63 rfl rfl hq he rfl rfl (Nat.le_of_ble_eq_true rfl) rfl k
theorem pF_X2_11 (X : CX κ G cc nL RX2 cx h) (hi : κ.2.2.1.name = "<init>") (d : Dc cc pc (.putfield 11) 3 pc2) {q a : Nat} {v0 v1 : Value} (hq : q < ν.1) (he : w q = .inr (2, [v0, v1])) (k : ∀ w2 : Wd, w2 q = .inr (2, [v0, .ref a]) → (∀ j, j ≠ q → w2 j = w j) → V κ G b ν w2 pc2 L st) : V κ G b ν w pc L (.ref a :: .ref (b + q) :: st) := r_putF X hi d rfl inlX2 tyX2 tyX2_ok nmX2 1 (by decide) qw_55 rfl rfl hq he rfl rfl (Nat.le_of_ble_eq_true rfl) rfl k
theorem pF_X3_18 (X : CX κ G cc nL RX3 cx h) (hi : κ.2.2.1.name = "<init>") (d : Dc cc pc (.putfield 18) 3 pc2) {q a : Nat} {v0 v1 v2 v3 v4 : Value} (hq : q < ν.1) (he : w q = .inr (3, [v0, v1, v2, v3, v4])) (k : ∀ w2 : Wd, w2 q = .inr (3, [v0, v1, v2, .ref a, v4]) → (∀ j, j ≠ q → w2 j = w j) → V κ G b ν w2 pc2 L st) : V κ G b ν w pc L (.ref a :: .ref (b + q) :: st) := r_putF X hi d rfl inlX3 tyX3 tyX3_ok nmX3 3 (by decide) qw_42 rfl rfl hq he rfl rfl (Nat.le_of_ble_eq_true rfl) rfl k
theorem pF_X3_22 (X : CX κ G cc nL RX3 cx h) (hi : κ.2.2.1.name = "<init>") (d : Dc cc pc (.putfield 22) 3 pc2) {q a : Nat} {v0 v1 v2 v3 v4 : Value} (hq : q < ν.1) (he : w q = .inr (3, [v0, v1, v2, v3, v4])) (k : ∀ w2 : Wd, w2 q = .inr (3, [v0, v1, v2, v3, .ref a]) → (∀ j, j ≠ q → w2 j = w j) → V κ G b ν w2 pc2 L st) : V κ G b ν w pc L (.ref a :: .ref (b + q) :: st) := r_putF X hi d rfl inlX3 tyX3 tyX3_ok nmX3 4 (by decide) qw_43 rfl rfl hq he rfl rfl (Nat.le_of_ble_eq_true rfl) rfl k
theorem pF_X4_9 (X : CX κ G cc nL RX4 cx h) (hi : κ.2.2.1.name = "<init>") (d : Dc cc pc (.putfield 9) 3 pc2) {q a : Nat} {v0 v1 v2 v3 v4 : Value} (hq : q < ν.1) (he : w q = .inr (4, [v0, v1, v2, v3, v4])) (k : ∀ w2 : Wd, w2 q = .inr (4, [v0, v1, .ref a, v3, v4]) → (∀ j, j ≠ q → w2 j = w j) → V κ G b ν w2 pc2 L st) : V κ G b ν w pc L (.ref a :: .ref (b + q) :: st) := r_putF X hi d rfl inlX4 tyX4 tyX4_ok nmX4 2 (by decide) qw_48 rfl rfl hq he rfl rfl (Nat.le_of_ble_eq_true rfl) rfl k
theorem pF_X4_15 (X : CX κ G cc nL RX4 cx h) (hi : κ.2.2.1.name = "<init>") (d : Dc cc pc (.putfield 15) 3 pc2) {q a : Nat} {v0 v1 v2 v3 v4 : Value} (hq : q < ν.1) (he : w q = .inr (4, [v0, v1, v2, v3, v4])) (k : ∀ w2 : Wd, w2 q = .inr (4, [v0, v1, v2, .ref a, v4]) → (∀ j, j ≠ q → w2 j = w j) → V κ G b ν w2 pc2 L st) : V κ G b ν w pc L (.ref a :: .ref (b + q) :: st) := r_putF X hi d rfl inlX4 tyX4 tyX4_ok nmX4 3 (by decide) qw_49 rfl rfl hq he rfl rfl (Nat.le_of_ble_eq_true rfl) rfl k
theorem pF_X4_18 (X : CX κ G cc nL RX4 cx h) (hi : κ.2.2.1.name = "<init>") (d : Dc cc pc (.putfield 18) 3 pc2) {q a : Nat} {v0 v1 v2 v3 v4 : Value} (hq : q < ν.1) (he : w q = .inr (4, [v0, v1, v2, v3, v4])) (k : ∀ w2 : Wd, w2 q = .inr (4, [v0, v1, v2, v3, .ref a]) → (∀ j, j ≠ q → w2 j = w j) → V κ G b ν w2 pc2 L st) : V κ G b ν w pc L (.ref a :: .ref (b + q) :: st) := r_putF X hi d rfl inlX4 tyX4 tyX4_ok nmX4 4 (by decide) qw_50 rfl rfl hq he rfl rfl (Nat.le_of_ble_eq_true rfl) rfl k
theorem kc_X5_9 (X : CX κ G cc nL RX5 cx h) (Y : CN κ b N0 mc ms) (d : Dc cc pc (.invokespecial 9) 3 pc2) {q mc1 ms1 hc : Nat} {post : Wd → Prop} (hM : CK κ.1.2.1 yX3_init cX3_init 1 hc G b N w [.ref (b + q)] mc1 ms1 post) (hR : hc + 1 ≤ h) (hnL : L.length = nL) (hcat : (st.map fun v => v.category).sum ≤ 8) (hN : N = N0 + k) (hk : k + mc1 ≤ mc) (hs : sl + ms1 ≤ ms) (kk : ∀ w2 : Wd, post w2 → V κ G b (N + mc1, k + mc1, sl + ms1) w2 pc2 L st) : V κ G b (N, k, sl) w pc L (.ref (b + q) :: st) := r_callN X Y hM d qw_35 qw_36 qw_14 qw_37 rfl (by decide +kernel) hR (by decide) hnL hcat hN hk hs kk
theorem kc_X5_18 (X : CX κ G cc nL RX5 cx h) (Y : CN κ b N0 mc ms) (d : Dc cc pc (.invokespecial 18) 3 pc2) {q mc1 ms1 hc : Nat} {post : Wd → Prop} (hM : CK κ.1.2.1 yX4_init cX4_init 1 hc G b N w [.ref (b + q)] mc1 ms1 post) (hR : hc + 1 ≤ h) (hnL : L.length = nL) (hcat : (st.map fun v => v.category).sum ≤ 8) (hN : N = N0 + k) (hk : k + mc1 ≤ mc) (hs : sl + ms1 ≤ ms) (kk : ∀ w2 : Wd, post w2 → V κ G b (N + mc1, k + mc1, sl + ms1) w2 pc2 L st) : V κ G b (N, k, sl) w pc L (.ref (b + q) :: st) := r_callN X Y hM d qw_44 qw_45 qw_18 qw_46 rfl (by decide +kernel) hR (by decide) hnL hcat hN hk hs kk
theorem kc_X5_25 (X : CX κ G cc nL RX5 cx h) (Y : CN κ b N0 mc ms) (d : Dc cc pc (.invokespecial 25) 3 pc2) {q mc1 ms1 hc : Nat} {post : Wd → Prop} (hM : CK κ.1.2.1 yX2_init cX2_init 1 hc G b N w [.ref (b + q)] mc1 ms1 post) (hR : hc + 1 ≤ h) (hnL : L.length = nL) (hcat : (st.map fun v => v.category).sum ≤ 8) (hN : N = N0 + k) (hk : k + mc1 ≤ mc) (hs : sl + ms1 ≤ ms) (kk : ∀ w2 : Wd, post w2 → V κ G b (N + mc1, k + mc1, sl + ms1) w2 pc2 L st) : V κ G b (N, k, sl) w pc L (.ref (b + q) :: st) := r_callN X Y hM d qw_51 qw_52 qw_22 qw_53 rfl (by decide +kernel) hR (by decide) hnL hcat hN hk hs kk
theorem kc_X5_32 (X : CX κ G cc nL RX5 cx h) (Y : CN κ b N0 mc ms) (d : Dc cc pc (.invokespecial 32) 3 pc2) {q mc1 ms1 hc : Nat} {post : Wd → Prop} (hM : CK κ.1.2.1 yX1_init cX1_init 2 hc G b N w [.ref (b + q)] mc1 ms1 post) (hR : hc + 1 ≤ h) (hnL : L.length = nL) (hcat : (st.map fun v => v.category).sum ≤ 8) (hN : N = N0 + k) (hk : k + mc1 ≤ mc) (hs : sl + ms1 ≤ ms) (kk : ∀ w2 : Wd, post w2 → V κ G b (N + mc1, k + mc1, sl + ms1) w2 pc2 L st) : V κ G b (N, k, sl) w pc L (.ref (b + q) :: st) := r_callN X Y hM d qw_56 qw_57 qw_26 qw_58 rfl (by decide +kernel) hR (by decide) hnL hcat hN hk hs kk
theorem kc_X5_39 (X : CX κ G cc nL RX5 cx h) (Y : CN κ b N0 mc ms) (d : Dc cc pc (.invokespecial 39) 3 pc2) {q mc1 ms1 hc : Nat} {post : Wd → Prop} (hM : CK κ.1.2.1 yX0_init cX0_init 2 hc G b N w [.ref (b + q)] mc1 ms1 post) (hR : hc + 1 ≤ h) (hnL : L.length = nL) (hcat : (st.map fun v => v.category).sum ≤ 8) (hN : N = N0 + k) (hk : k + mc1 ≤ mc) (hs : sl + ms1 ≤ ms) (kk : ∀ w2 : Wd, post w2 → V κ G b (N + mc1, k + mc1, sl + ms1) w2 pc2 L st) : V κ G b (N, k, sl) w pc L (.ref (b + q) :: st) := r_callN X Y hM d qw_66 qw_67 qw_30 qw_68 rfl (by decide +kernel) hR (by decide) hnL hcat hN hk hs kk
theorem dfX3_X5 : ∀ j, j < 5 → defaultValue (tyX3 j) = vp_V [.int (nI 0), .int (nI 0), .int (nI 0), .null, .null] j := fun j hj => match j, hj with
    | 0, _ => rfl
    | 1, _ => rfl
    | 2, _ => rfl
    | 3, _ => rfl
    | 4, _ => rfl
    | j + 5, h => absurd h (by omega)
theorem nw_X5_7 (X : CX κ G cc nL RX5 cx h) (Y : CN κ b N0 mc ms) (d : Dc cc pc (.new 7) 3 pc2) (hN : N = N0 + k) (hk : k + 1 ≤ mc) (hs : sl + 5 ≤ ms) (kk : ∀ w2 : Wd, w2 N = .inr (3, [.int (nI 0), .int (nI 0), .int (nI 0), .null, .null]) → (∀ j, j ≠ N → w2 j = w j) → V κ G b (N + 1, k + 1, sl + 5) w2 pc2 L (.ref (b + N) :: st)) : V κ G b (N, k, sl) w pc L st := r_new X Y d rfl inlX3 tyX3 tyX3_ok qw_12 qw_13 qw_14 dfX3_X5 hN hk hs kk
theorem dfX4_X5 : ∀ j, j < 5 → defaultValue (tyX4 j) = vp_V [.int (nI 0), .int (nI 0), .null, .null, .null] j := fun j hj => match j, hj with
    | 0, _ => rfl
    | 1, _ => rfl
    | 2, _ => rfl
    | 3, _ => rfl
    | 4, _ => rfl
    | j + 5, h => absurd h (by omega)
theorem nw_X5_16 (X : CX κ G cc nL RX5 cx h) (Y : CN κ b N0 mc ms) (d : Dc cc pc (.new 16) 3 pc2) (hN : N = N0 + k) (hk : k + 1 ≤ mc) (hs : sl + 5 ≤ ms) (kk : ∀ w2 : Wd, w2 N = .inr (4, [.int (nI 0), .int (nI 0), .null, .null, .null]) → (∀ j, j ≠ N → w2 j = w j) → V κ G b (N + 1, k + 1, sl + 5) w2 pc2 L (.ref (b + N) :: st)) : V κ G b (N, k, sl) w pc L st := r_new X Y d rfl inlX4 tyX4 tyX4_ok qw_16 qw_17 qw_18 dfX4_X5 hN hk hs kk
theorem dfX2_X5 : ∀ j, j < 2 → defaultValue (tyX2 j) = vp_V [.int (nI 0), .null] j := fun j hj => match j, hj with
    | 0, _ => rfl
    | 1, _ => rfl
    | j + 2, h => absurd h (by omega)
theorem nw_X5_23 (X : CX κ G cc nL RX5 cx h) (Y : CN κ b N0 mc ms) (d : Dc cc pc (.new 23) 3 pc2) (hN : N = N0 + k) (hk : k + 1 ≤ mc) (hs : sl + 2 ≤ ms) (kk : ∀ w2 : Wd, w2 N = .inr (2, [.int (nI 0), .null]) → (∀ j, j ≠ N → w2 j = w j) → V κ G b (N + 1, k + 1, sl + 2) w2 pc2 L (.ref (b + N) :: st)) : V κ G b (N, k, sl) w pc L st := r_new X Y d rfl inlX2 tyX2 tyX2_ok qw_20 qw_21 qw_22 dfX2_X5 hN hk hs kk
theorem dfX1_X5 : ∀ j, j < 6 → defaultValue (tyX1 j) = vp_V [.int (nI 0), .int (nI 0), .int (nI 0), .int (nI 0), .null, .null] j := fun j hj => match j, hj with
    | 0, _ => rfl
    | 1, _ => rfl
    | 2, _ => rfl
    | 3, _ => rfl
    | 4, _ => rfl
    | 5, _ => rfl
    | j + 6, h => absurd h (by omega)
theorem nw_X5_30 (X : CX κ G cc nL RX5 cx h) (Y : CN κ b N0 mc ms) (d : Dc cc pc (.new 30) 3 pc2) (hN : N = N0 + k) (hk : k + 1 ≤ mc) (hs : sl + 6 ≤ ms) (kk : ∀ w2 : Wd, w2 N = .inr (1, [.int (nI 0), .int (nI 0), .int (nI 0), .int (nI 0), .null, .null]) → (∀ j, j ≠ N → w2 j = w j) → V κ G b (N + 1, k + 1, sl + 6) w2 pc2 L (.ref (b + N) :: st)) : V κ G b (N, k, sl) w pc L st := r_new X Y d rfl inlX1 tyX1 tyX1_ok qw_24 qw_25 qw_26 dfX1_X5 hN hk hs kk
theorem dfX0_X5 : ∀ j, j < 4 → defaultValue (tyX0 j) = vp_V [.null, .null, .null, .null] j := fun j hj => match j, hj with
    | 0, _ => rfl
    | 1, _ => rfl
    | 2, _ => rfl
    | 3, _ => rfl
    | j + 4, h => absurd h (by omega)
theorem nw_X5_37 (X : CX κ G cc nL RX5 cx h) (Y : CN κ b N0 mc ms) (d : Dc cc pc (.new 37) 3 pc2) (hN : N = N0 + k) (hk : k + 1 ≤ mc) (hs : sl + 4 ≤ ms) (kk : ∀ w2 : Wd, w2 N = .inr (0, [.null, .null, .null, .null]) → (∀ j, j ≠ N → w2 j = w j) → V κ G b (N + 1, k + 1, sl + 4) w2 pc2 L (.ref (b + N) :: st)) : V κ G b (N, k, sl) w pc L st := r_new X Y d rfl inlX0 tyX0 tyX0_ok qw_28 qw_29 qw_30 dfX0_X5 hN hk hs kk
theorem pF_X5_10 (X : CX κ G cc nL RX5 cx h) (hi : κ.2.2.1.name = "<init>") (d : Dc cc pc (.putfield 10) 3 pc2) {q a : Nat} {v0 v1 v2 v3 v4 v5 v6 : Value} (hq : q < ν.1) (he : w q = .inr (5, [v0, v1, v2, v3, v4, v5, v6])) (k : ∀ w2 : Wd, w2 q = .inr (5, [.ref a, v1, v2, v3, v4, v5, v6]) → (∀ j, j ≠ q → w2 j = w j) → V κ G b ν w2 pc2 L st) : V κ G b ν w pc L (.ref a :: .ref (b + q) :: st) := r_putF X hi d rfl inlX5 tyX5 tyX5_ok nmX5 0 (by decide) qw_15 rfl rfl hq he rfl rfl (Nat.le_of_ble_eq_true rfl) rfl k
theorem pF_X5_19 (X : CX κ G cc nL RX5 cx h) (hi : κ.2.2.1.name = "<init>") (d : Dc cc pc (.putfield 19) 3 pc2) {q a : Nat} {v0 v1 v2 v3 v4 v5 v6 : Value} (hq : q < ν.1) (he : w q = .inr (5, [v0, v1, v2, v3, v4, v5, v6])) (k : ∀ w2 : Wd, w2 q = .inr (5, [v0, .ref a, v2, v3, v4, v5, v6]) → (∀ j, j ≠ q → w2 j = w j) → V κ G b ν w2 pc2 L st) : V κ G b ν w pc L (.ref a :: .ref (b + q) :: st) := r_putF X hi d rfl inlX5 tyX5 tyX5_ok nmX5 1 (by decide) qw_19 rfl rfl hq he rfl rfl (Nat.le_of_ble_eq_true rfl) rfl k
theorem pF_X5_26 (X : CX κ G cc nL RX5 cx h) (hi : κ.2.2.1.name = "<init>") (d : Dc cc pc (.putfield 26) 3 pc2) {q a : Nat} {v0 v1 v2 v3 v4 v5 v6 : Value} (hq : q < ν.1) (he : w q = .inr (5, [v0, v1, v2, v3, v4, v5, v6])) (k : ∀ w2 : Wd, w2 q = .inr (5, [v0, v1, .ref a, v3, v4, v5, v6]) → (∀ j, j ≠ q → w2 j = w j) → V κ G b ν w2 pc2 L st) : V κ G b ν w pc L (.ref a :: .ref (b + q) :: st) := r_putF X hi d rfl inlX5 tyX5 tyX5_ok nmX5 2 (by decide) qw_23 rfl rfl hq he rfl rfl (Nat.le_of_ble_eq_true rfl) rfl k
theorem pF_X5_33 (X : CX κ G cc nL RX5 cx h) (hi : κ.2.2.1.name = "<init>") (d : Dc cc pc (.putfield 33) 3 pc2) {q a : Nat} {v0 v1 v2 v3 v4 v5 v6 : Value} (hq : q < ν.1) (he : w q = .inr (5, [v0, v1, v2, v3, v4, v5, v6])) (k : ∀ w2 : Wd, w2 q = .inr (5, [v0, v1, v2, .ref a, v4, v5, v6]) → (∀ j, j ≠ q → w2 j = w j) → V κ G b ν w2 pc2 L st) : V κ G b ν w pc L (.ref a :: .ref (b + q) :: st) := r_putF X hi d rfl inlX5 tyX5 tyX5_ok nmX5 3 (by decide) qw_27 rfl rfl hq he rfl rfl (Nat.le_of_ble_eq_true rfl) rfl k
theorem pF_X5_40 (X : CX κ G cc nL RX5 cx h) (hi : κ.2.2.1.name = "<init>") (d : Dc cc pc (.putfield 40) 3 pc2) {q a : Nat} {v0 v1 v2 v3 v4 v5 v6 : Value} (hq : q < ν.1) (he : w q = .inr (5, [v0, v1, v2, v3, v4, v5, v6])) (k : ∀ w2 : Wd, w2 q = .inr (5, [v0, v1, v2, v3, .ref a, v5, v6]) → (∀ j, j ≠ q → w2 j = w j) → V κ G b ν w2 pc2 L st) : V κ G b ν w pc L (.ref a :: .ref (b + q) :: st) := r_putF X hi d rfl inlX5 tyX5 tyX5_ok nmX5 4 (by decide) qw_31 rfl rfl hq he rfl rfl (Nat.le_of_ble_eq_true rfl) rfl k
theorem pF_X5_44 (X : CX κ G cc nL RX5 cx h) (hi : κ.2.2.1.name = "<init>") (d : Dc cc pc (.putfield 44) 3 pc2) {q a : Nat} {v0 v1 v2 v3 v4 v5 v6 : Value} (hq : q < ν.1) (he : w q = .inr (5, [v0, v1, v2, v3, v4, v5, v6])) (k : ∀ w2 : Wd, w2 q = .inr (5, [v0, v1, v2, v3, v4, .ref a, v6]) → (∀ j, j ≠ q → w2 j = w j) → V κ G b ν w2 pc2 L st) : V κ G b ν w pc L (.ref a :: .ref (b + q) :: st) := r_putF X hi d rfl inlX5 tyX5 tyX5_ok nmX5 5 (by decide) qw_32 rfl rfl hq he rfl rfl (Nat.le_of_ble_eq_true rfl) rfl k
theorem pF_X5_48 (X : CX κ G cc nL RX5 cx h) (hi : κ.2.2.1.name = "<init>") (d : Dc cc pc (.putfield 48) 3 pc2) {q a : Nat} {v0 v1 v2 v3 v4 v5 v6 : Value} (hq : q < ν.1) (he : w q = .inr (5, [v0, v1, v2, v3, v4, v5, v6])) (k : ∀ w2 : Wd, w2 q = .inr (5, [v0, v1, v2, v3, v4, v5, .ref a]) → (∀ j, j ≠ q → w2 j = w j) → V κ G b ν w2 pc2 L st) : V κ G b ν w pc L (.ref a :: .ref (b + q) :: st) := r_putF X hi d rfl inlX5 tyX5 tyX5_ok nmX5 6 (by decide) qw_34 rfl rfl hq he rfl rfl (Nat.le_of_ble_eq_true rfl) rfl k
theorem pF_X6_7 (X : CX κ G cc nL RX6 cx h) (hi : κ.2.2.1.name = "<init>") (d : Dc cc pc (.putfield 7) 3 pc2) {q a : Nat} {v0 v1 v2 v3 v4 v5 v6 v7 v8 v9 v10 v11 v12 v13 v14 v15 v16 v17 v18 : Value} (hq : q < ν.1) (he : w q = .inr (6, [v0, v1, v2, v3, v4, v5, v6, v7, v8, v9, v10, v11, v12, v13, v14, v15, v16, v17, v18])) (k : ∀ w2 : Wd, w2 q = .inr (6, [.ref a, v1, v2, v3, v4, v5, v6, v7, v8, v9, v10, v11, v12, v13, v14, v15, v16, v17, v18]) → (∀ j, j ≠ q → w2 j = w j) → V κ G b ν w2 pc2 L st) : V κ G b ν w pc L (.ref a :: .ref (b + q) :: st) := r_putF X hi d rfl inlX6 tyX6 tyX6_ok nmX6 0 (by decide) qw_82 rfl rfl hq he rfl rfl (Nat.le_of_ble_eq_true rfl) rfl k
theorem pF_X6_13 (X : CX κ G cc nL RX6 cx h) (hi : κ.2.2.1.name = "<init>") (d : Dc cc pc (.putfield 13) 3 pc2) {q a : Nat} {v0 v1 v2 v3 v4 v5 v6 v7 v8 v9 v10 v11 v12 v13 v14 v15 v16 v17 v18 : Value} (hq : q < ν.1) (he : w q = .inr (6, [v0, v1, v2, v3, v4, v5, v6, v7, v8, v9, v10, v11, v12, v13, v14, v15, v16, v17, v18])) (k : ∀ w2 : Wd, w2 q = .inr (6, [v0, .ref a, v2, v3, v4, v5, v6, v7, v8, v9, v10, v11, v12, v13, v14, v15, v16, v17, v18]) → (∀ j, j ≠ q → w2 j = w j) → V κ G b ν w2 pc2 L st) : V κ G b ν w pc L (.ref a :: .ref (b + q) :: st) := r_putF X hi d rfl inlX6 tyX6 tyX6_ok nmX6 1 (by decide) qw_83 rfl rfl hq he rfl rfl (Nat.le_of_ble_eq_true rfl) rfl k
theorem pF_X6_16 (X : CX κ G cc nL RX6 cx h) (hi : κ.2.2.1.name = "<init>") (d : Dc cc pc (.putfield 16) 3 pc2) {q a : Nat} {v0 v1 v2 v3 v4 v5 v6 v7 v8 v9 v10 v11 v12 v13 v14 v15 v16 v17 v18 : Value} (hq : q < ν.1) (he : w q = .inr (6, [v0, v1, v2, v3, v4, v5, v6, v7, v8, v9, v10, v11, v12, v13, v14, v15, v16, v17, v18])) (k : ∀ w2 : Wd, w2 q = .inr (6, [v0, v1, .ref a, v3, v4, v5, v6, v7, v8, v9, v10, v11, v12, v13, v14, v15, v16, v17, v18]) → (∀ j, j ≠ q → w2 j = w j) → V κ G b ν w2 pc2 L st) : V κ G b ν w pc L (.ref a :: .ref (b + q) :: st) := r_putF X hi d rfl inlX6 tyX6 tyX6_ok nmX6 2 (by decide) qw_84 rfl rfl hq he rfl rfl (Nat.le_of_ble_eq_true rfl) rfl k
theorem pF_X6_20 (X : CX κ G cc nL RX6 cx h) (hi : κ.2.2.1.name = "<init>") (d : Dc cc pc (.putfield 20) 3 pc2) {q a : Nat} {v0 v1 v2 v3 v4 v5 v6 v7 v8 v9 v10 v11 v12 v13 v14 v15 v16 v17 v18 : Value} (hq : q < ν.1) (he : w q = .inr (6, [v0, v1, v2, v3, v4, v5, v6, v7, v8, v9, v10, v11, v12, v13, v14, v15, v16, v17, v18])) (k : ∀ w2 : Wd, w2 q = .inr (6, [v0, v1, v2, .ref a, v4, v5, v6, v7, v8, v9, v10, v11, v12, v13, v14, v15, v16, v17, v18]) → (∀ j, j ≠ q → w2 j = w j) → V κ G b ν w2 pc2 L st) : V κ G b ν w pc L (.ref a :: .ref (b + q) :: st) := r_putF X hi d rfl inlX6 tyX6 tyX6_ok nmX6 3 (by decide) qw_85 rfl rfl hq he rfl rfl (Nat.le_of_ble_eq_true rfl) rfl k
theorem pF_X6_23 (X : CX κ G cc nL RX6 cx h) (hi : κ.2.2.1.name = "<init>") (d : Dc cc pc (.putfield 23) 3 pc2) {q a : Nat} {v0 v1 v2 v3 v4 v5 v6 v7 v8 v9 v10 v11 v12 v13 v14 v15 v16 v17 v18 : Value} (hq : q < ν.1) (he : w q = .inr (6, [v0, v1, v2, v3, v4, v5, v6, v7, v8, v9, v10, v11, v12, v13, v14, v15, v16, v17, v18])) (k : ∀ w2 : Wd, w2 q = .inr (6, [v0, v1, v2, v3, v4, .ref a, v6, v7, v8, v9, v10, v11, v12, v13, v14, v15, v16, v17, v18]) → (∀ j, j ≠ q → w2 j = w j) → V κ G b ν w2 pc2 L st) : V κ G b ν w pc L (.ref a :: .ref (b + q) :: st) := r_putF X hi d rfl inlX6 tyX6 tyX6_ok nmX6 5 (by decide) qw_86 rfl rfl hq he rfl rfl (Nat.le_of_ble_eq_true rfl) rfl k
theorem pF_X6_26 (X : CX κ G cc nL RX6 cx h) (hi : κ.2.2.1.name = "<init>") (d : Dc cc pc (.putfield 26) 3 pc2) {q a : Nat} {v0 v1 v2 v3 v4 v5 v6 v7 v8 v9 v10 v11 v12 v13 v14 v15 v16 v17 v18 : Value} (hq : q < ν.1) (he : w q = .inr (6, [v0, v1, v2, v3, v4, v5, v6, v7, v8, v9, v10, v11, v12, v13, v14, v15, v16, v17, v18])) (k : ∀ w2 : Wd, w2 q = .inr (6, [v0, v1, v2, v3, v4, v5, .ref a, v7, v8, v9, v10, v11, v12, v13, v14, v15, v16, v17, v18]) → (∀ j, j ≠ q → w2 j = w j) → V κ G b ν w2 pc2 L st) : V κ G b ν w pc L (.ref a :: .ref (b + q) :: st) := r_putF X hi d rfl inlX6 tyX6 tyX6_ok nmX6 6 (by decide) qw_87 rfl rfl hq he rfl rfl (Nat.le_of_ble_eq_true rfl) rfl k
theorem pF_X6_29 (X : CX κ G cc nL RX6 cx h) (hi : κ.2.2.1.name = "<init>") (d : Dc cc pc (.putfield 29) 3 pc2) {q a : Nat} {v0 v1 v2 v3 v4 v5 v6 v7 v8 v9 v10 v11 v12 v13 v14 v15 v16 v17 v18 : Value} (hq : q < ν.1) (he : w q = .inr (6, [v0, v1, v2, v3, v4, v5, v6, v7, v8, v9, v10, v11, v12, v13, v14, v15, v16, v17, v18])) (k : ∀ w2 : Wd, w2 q = .inr (6, [v0, v1, v2, v3, v4, v5, v6, v7, v8, .ref a, v10, v11, v12, v13, v14, v15, v16, v17, v18]) → (∀ j, j ≠ q → w2 j = w j) → V κ G b ν w2 pc2 L st) : V κ G b ν w pc L (.ref a :: .ref (b + q) :: st) := r_putF X hi d rfl inlX6 tyX6 tyX6_ok nmX6 9 (by decide) qw_88 rfl rfl hq he rfl rfl (Nat.le_of_ble_eq_true rfl) rfl k
theorem pF_X6_32 (X : CX κ G cc nL RX6 cx h) (hi : κ.2.2.1.name = "<init>") (d : Dc cc pc (.putfield 32) 3 pc2) {q a : Nat} {v0 v1 v2 v3 v4 v5 v6 v7 v8 v9 v10 v11 v12 v13 v14 v15 v16 v17 v18 : Value} (hq : q < ν.1) (he : w q = .inr (6, [v0, v1, v2, v3, v4, v5, v6, v7, v8, v9, v10, v11, v12, v13, v14, v15, v16, v17, v18])) (k : ∀ w2 : Wd, w2 q = .inr (6, [v0, v1, v2, v3, v4, v5, v6, v7, v8, v9, .ref a, v11, v12, v13, v14, v15, v16, v17, v18]) → (∀ j, j ≠ q → w2 j = w j) → V κ G b ν w2 pc2 L st) : V κ G b ν w pc L (.ref a :: .ref (b + q) :: st) := r_putF X hi d rfl inlX6 tyX6 tyX6_ok nmX6 10 (by decide) qw_89 rfl rfl hq he rfl rfl (Nat.le_of_ble_eq_true rfl) rfl k
theorem pF_X6_35 (X : CX κ G cc nL RX6 cx h) (hi : κ.2.2.1.name = "<init>") (d : Dc cc pc (.putfield 35) 3 pc2) {q a : Nat} {v0 v1 v2 v3 v4 v5 v6 v7 v8 v9 v10 v11 v12 v13 v14 v15 v16 v17 v18 : Value} (hq : q < ν.1) (he : w q = .inr (6, [v0, v1, v2, v3, v4, v5, v6, v7, v8, v9, v10, v11, v12, v13, v14, v15, v16, v17, v18])) (k : ∀ w2 : Wd, w2 q = .inr (6, [v0, v1, v2, v3, v4, v5, v6, v7, v8, v9, v10, v11, v12, v13, v14, v15, v16, .ref a, v18]) → (∀ j, j ≠ q → w2 j = w j) → V κ G b ν w2 pc2 L st) : V κ G b ν w pc L (.ref a :: .ref (b + q) :: st) := r_putF X hi d rfl inlX6 tyX6 tyX6_ok nmX6 17 (by decide) qw_90 rfl rfl hq he rfl rfl (Nat.le_of_ble_eq_true rfl) rfl k
theorem pF_X6_38 (X : CX κ G cc nL RX6 cx h) (hi : κ.2.2.1.name = "<init>") (d : Dc cc pc (.putfield 38) 3 pc2) {q a : Nat} {v0 v1 v2 v3 v4 v5 v6 v7 v8 v9 v10 v11 v12 v13 v14 v15 v16 v17 v18 : Value} (hq : q < ν.1) (he : w q = .inr (6, [v0, v1, v2, v3, v4, v5, v6, v7, v8, v9, v10, v11, v12, v13, v14, v15, v16, v17, v18])) (k : ∀ w2 : Wd, w2 q = .inr (6, [v0, v1, v2, v3, v4, v5, v6, v7, v8, v9, v10, v11, v12, v13, v14, v15, v16, v17, .ref a]) → (∀ j, j ≠ q → w2 j = w j) → V κ G b ν w2 pc2 L st) : V κ G b ν w pc L (.ref a :: .ref (b + q) :: st) := r_putF X hi d rfl inlX6 tyX6 tyX6_ok nmX6 18 (by decide) qw_91 rfl rfl hq he rfl rfl (Nat.le_of_ble_eq_true rfl) rfl k
end ISITES
set_option maxHeartbeats 4000000 in
set_option maxRecDepth 100000 in
theorem c_X3_init (l : Launch) (G : Gs) (b : Nat) (w : Wd) (ko : Nat) (ho : w ko = .inr (3, [.int (nI 0), .int (nI 0), .int (nI 0), .null, .null])) : CK l yX3_init cX3_init 1 1 G b (ko + 1) w [.ref (b + ko)] 2 128 (fun w2 => isP G b w2 ko 0 P0 ∧ ∀ j, j < ko → w2 j = w j) := by
  refine CK_of (L0 := [some (.ref (b + ko))]) (by decide) rfl rfl (by simp [Value.category]) rfl (Nat.le_of_ble_eq_true rfl) (fun κ X Y hi ret => ?_)
  have fr_w : ∀ j, j < ko → w j = w j := fun _ _ => rfl
  refine r_aload_n X eX3_init_0 rfl ?_
  refine r_obj X eX3_init_1 qw_38 rfl (Nat.le_of_ble_eq_true rfl) ?_
  refine r_aload_n X eX3_init_4 rfl ?_
  refine r_iconst X eX3_init_5 (nI 4) (by decide) ?_
  refine pf_X3_9 X eX3_init_6 (by omega) ho (fun w1 n1_w1 uu1 => ?_)
  have fr_w1 : ∀ j, j < ko → w1 j = w j := fun j hj => (uu1 j (by omega)).trans (fr_w j hj)
  refine r_aload_n X eX3_init_9 rfl ?_
  refine r_iconst X eX3_init_10 (nI 4) (by decide) ?_
  refine pf_X3_15 X eX3_init_11 (by omega) n1_w1 (fun w2 n2_w2 uu2 => ?_)
  have fr_w2 : ∀ j, j < ko → w2 j = w j := fun j hj => (uu2 j (by omega)).trans (fr_w1 j hj)
  refine r_aload_n X eX3_init_14 rfl ?_
  refine r_bipush X eX3_init_15 (nI 64) (by decide) ?_
  refine r_newI X Y eX3_init_17 (by decide) (by omega) (by omega) (by omega) (fun w3 n3_w3 uu3 => ?_)
  have n2_w3 := (uu3 ko (by omega)).trans n2_w2
  have fr_w3 : ∀ j, j < ko → w3 j = w j := fun j hj => (uu3 j (by omega)).trans (fr_w2 j hj)
  refine pF_X3_18 X hi eX3_init_19 (by omega) n2_w3 (fun w4 n4_w4 uu4 => ?_)
  have n3_w4 := (uu4 (ko + 1) (by omega)).trans n3_w3
  have fr_w4 : ∀ j, j < ko → w4 j = w j := fun j hj => (uu4 j (by omega)).trans (fr_w3 j hj)
  refine r_aload_n X eX3_init_22 rfl ?_
  refine r_bipush X eX3_init_23 (nI 64) (by decide) ?_
  refine r_newI X Y eX3_init_25 (by decide) (by omega) (by omega) (by omega) (fun w5 n5_w5 uu5 => ?_)
  have n4_w5 := (uu5 ko (by omega)).trans n4_w4
  have n3_w5 := (uu5 (ko + 1) (by omega)).trans n3_w4
  have fr_w5 : ∀ j, j < ko → w5 j = w j := fun j hj => (uu5 j (by omega)).trans (fr_w4 j hj)
  refine pF_X3_22 X hi eX3_init_27 (by omega) n4_w5 (fun w6 n6_w6 uu6 => ?_)
  have n3_w6 := (uu6 (ko + 1) (by omega)).trans n3_w5
  have n5_w6 := (uu6 (ko + 2) (by omega)).trans n5_w5
  have fr_w6 : ∀ j, j < ko → w6 j = w j := fun j hj => (uu6 j (by omega)).trans (fr_w5 j hj)
  refine r_nu (ν2 := (ko + 1 + 2, 2, 128)) (nu_eq (by omega) (by omega) (by omega)) ?_
  exact ret _ _ _ _ eX3_init_30 (⟨isP0 n6_w6 n3_w6 n5_w6, fr_w6⟩)
set_option maxHeartbeats 4000000 in
set_option maxRecDepth 100000 in
theorem c_X4_init (l : Launch) (G : Gs) (b : Nat) (w : Wd) (ko : Nat) (ho : w ko = .inr (4, [.int (nI 0), .int (nI 0), .null, .null, .null])) : CK l yX4_init cX4_init 1 1 G b (ko + 1) w [.ref (b + ko)] 3 136 (fun w2 => anySm G b w2 ko ∧ ∀ j, j < ko → w2 j = w j) := by
  refine CK_of (L0 := [some (.ref (b + ko))]) (by decide) rfl rfl (by simp [Value.category]) rfl (Nat.le_of_ble_eq_true rfl) (fun κ X Y hi ret => ?_)
  have fr_w : ∀ j, j < ko → w j = w j := fun _ _ => rfl
  refine r_aload_n X eX4_init_0 rfl ?_
  refine r_obj X eX4_init_1 qw_47 rfl (Nat.le_of_ble_eq_true rfl) ?_
  refine r_aload_n X eX4_init_4 rfl ?_
  refine r_bipush X eX4_init_5 (nI 8) (by decide) ?_
  refine r_newI X Y eX4_init_7 (by decide) (by omega) (by omega) (by omega) (fun w1 n1_w1 uu1 => ?_)
  have ho_w1 := (uu1 ko (by omega)).trans ho
  have fr_w1 : ∀ j, j < ko → w1 j = w j := fun j hj => (uu1 j (by omega)).trans (fr_w j hj)
  refine pF_X4_9 X hi eX4_init_9 (by omega) ho_w1 (fun w2 n2_w2 uu2 => ?_)
  have n1_w2 := (uu2 (ko + 1) (by omega)).trans n1_w1
  have fr_w2 : ∀ j, j < ko → w2 j = w j := fun j hj => (uu2 j (by omega)).trans (fr_w1 j hj)
  refine r_aload_n X eX4_init_12 rfl ?_
  refine r_bipush X eX4_init_13 (nI 64) (by decide) ?_
  refine r_newI X Y eX4_init_15 (by decide) (by omega) (by omega) (by omega) (fun w3 n3_w3 uu3 => ?_)
  have n2_w3 := (uu3 ko (by omega)).trans n2_w2
  have n1_w3 := (uu3 (ko + 1) (by omega)).trans n1_w2
  have fr_w3 : ∀ j, j < ko → w3 j = w j := fun j hj => (uu3 j (by omega)).trans (fr_w2 j hj)
  refine pF_X4_15 X hi eX4_init_17 (by omega) n2_w3 (fun w4 n4_w4 uu4 => ?_)
  have n1_w4 := (uu4 (ko + 1) (by omega)).trans n1_w3
  have n3_w4 := (uu4 (ko + 2) (by omega)).trans n3_w3
  have fr_w4 : ∀ j, j < ko → w4 j = w j := fun j hj => (uu4 j (by omega)).trans (fr_w3 j hj)
  refine r_aload_n X eX4_init_20 rfl ?_
  refine r_bipush X eX4_init_21 (nI 64) (by decide) ?_
  refine r_newI X Y eX4_init_23 (by decide) (by omega) (by omega) (by omega) (fun w5 n5_w5 uu5 => ?_)
  have n4_w5 := (uu5 ko (by omega)).trans n4_w4
  have n1_w5 := (uu5 (ko + 1) (by omega)).trans n1_w4
  have n3_w5 := (uu5 (ko + 2) (by omega)).trans n3_w4
  have fr_w5 : ∀ j, j < ko → w5 j = w j := fun j hj => (uu5 j (by omega)).trans (fr_w4 j hj)
  refine pF_X4_18 X hi eX4_init_25 (by omega) n4_w5 (fun w6 n6_w6 uu6 => ?_)
  have n1_w6 := (uu6 (ko + 1) (by omega)).trans n1_w5
  have n3_w6 := (uu6 (ko + 2) (by omega)).trans n3_w5
  have n5_w6 := (uu6 (ko + 3) (by omega)).trans n5_w5
  have fr_w6 : ∀ j, j < ko → w6 j = w j := fun j hj => (uu6 j (by omega)).trans (fr_w5 j hj)
  refine r_nu (ν2 := (ko + 1 + 3, 3, 136)) (nu_eq (by omega) (by omega) (by omega)) ?_
  exact ret _ _ _ _ eX4_init_28 (⟨⟨0, nI 0, _, _, _, n6_w6, n1_w6, n3_w6, n5_w6⟩, fr_w6⟩)
set_option maxHeartbeats 4000000 in
set_option maxRecDepth 100000 in
theorem c_X2_init (l : Launch) (G : Gs) (b : Nat) (w : Wd) (ko : Nat) (ho : w ko = .inr (2, [.int (nI 0), .null])) : CK l yX2_init cX2_init 1 1 G b (ko + 1) w [.ref (b + ko)] 1 80 (fun w2 => isPad G b w2 ko 0 (fun _ => 0) ∧ ∀ j, j < ko → w2 j = w j) := by
  refine CK_of (L0 := [some (.ref (b + ko))]) (by decide) rfl rfl (by simp [Value.category]) rfl (Nat.le_of_ble_eq_true rfl) (fun κ X Y hi ret => ?_)
  have fr_w : ∀ j, j < ko → w j = w j := fun _ _ => rfl
  refine r_aload_n X eX2_init_0 rfl ?_
  refine r_obj X eX2_init_1 qw_54 rfl (Nat.le_of_ble_eq_true rfl) ?_
  refine r_aload_n X eX2_init_4 rfl ?_
  refine r_bipush X eX2_init_5 (nI 80) (by decide) ?_
  refine r_newI X Y eX2_init_7 (by decide) (by omega) (by omega) (by omega) (fun w1 n1_w1 uu1 => ?_)
  have ho_w1 := (uu1 ko (by omega)).trans ho
  have fr_w1 : ∀ j, j < ko → w1 j = w j := fun j hj => (uu1 j (by omega)).trans (fr_w j hj)
  refine pF_X2_11 X hi eX2_init_9 (by omega) ho_w1 (fun w2 n2_w2 uu2 => ?_)
  have n1_w2 := (uu2 (ko + 1) (by omega)).trans n1_w1
  have fr_w2 : ∀ j, j < ko → w2 j = w j := fun j hj => (uu2 j (by omega)).trans (fr_w1 j hj)
  refine r_nu (ν2 := (ko + 1 + 1, 1, 80)) (nu_eq (by omega) (by omega) (by omega)) ?_
  exact ret _ _ _ _ eX2_init_12 (⟨⟨n2_w2, n1_w2, by decide⟩, fr_w2⟩)
set_option maxHeartbeats 4000000 in
set_option maxRecDepth 100000 in
theorem c_X1_init (l : Launch) (G : Gs) (b : Nat) (w : Wd) (ko : Nat) (ho : w ko = .inr (1, [.int (nI 0), .int (nI 0), .int (nI 0), .int (nI 0), .null, .null])) : CK l yX1_init cX1_init 2 2 G b (ko + 1) w [.ref (b + ko)] 26 1079 (fun w2 => (w2 ko = osF b ko (0, [], 0, 0) ∧ osW G b w2 ko) ∧ ∀ j, j < ko → w2 j = w j) := by
  refine CK_of (L0 := [some (.ref (b + ko)), none]) (by decide) rfl rfl (by simp [Value.category]) rfl (Nat.le_of_ble_eq_true rfl) (fun κ X Y hi ret => ?_)
  have fr_w : ∀ j, j < ko → w j = w j := fun _ _ => rfl
  refine r_aload_n X eX1_init_0 rfl ?_
  refine r_obj X eX1_init_1 qw_59 rfl (Nat.le_of_ble_eq_true rfl) ?_
  refine r_aload_n X eX1_init_4 rfl ?_
  refine r_bipush X eX1_init_5 (nI 7) (by decide) ?_
  refine r_newP X Y eX1_init_7 qw_60 (by decide) (by omega) (by omega) (by omega) (fun w1 n1_w1 uu1 => ?_)
  have ho_w1 := (uu1 ko (by omega)).trans ho
  have fr_w1 : ∀ j, j < ko → w1 j = w j := fun j hj => (uu1 j (by omega)).trans (fr_w j hj)
  refine pF_X1_11 X hi eX1_init_10 (by omega) ho_w1 (fun w2 n2_w2 uu2 => ?_)
  have n1_w2 := (uu2 (ko + 1) (by omega)).trans n1_w1
  have fr_w2 : ∀ j, j < ko → w2 j = w j := fun j hj => (uu2 j (by omega)).trans (fr_w1 j hj)
  refine r_iconst X eX1_init_13 (nI 0) (by decide) ?_
  refine r_istore_n X eX1_init_14 (Nat.le_of_ble_eq_true rfl) (L2 := [some (.ref (b + ko)), some (.int (nI 0))]) rfl ?_
  have hx : ∀ (f : Nat → Option Nat) (wx : Wd), (wx (ko + 1) = aP G 7 f) → (∀ j, j < 7 → f j = some (b + (ko + 3 * j + 2))) → (∀ j, j < 7 → isP G b wx (ko + 3 * j + 2) 0 P0) → (∀ j, j < (ko + 2) → j ≠ (ko + 1) → wx j = w2 j) → V κ G b (ko + 3 * 7 + 2, 1 + 3 * 7, 7 + 133 * 7) wx 40 [some (.ref (b + ko)), some (.int (nI 7))] [] := by
    intro f wx ha hf hp hfr
    have n2_wx := (hfr ko (by omega) (by omega)).trans n2_w2
    have fr_wx : ∀ j, j < ko → wx j = w j := fun j hj => (hfr j (by omega) (by omega)).trans (fr_w2 j hj)
    refine r_ext (g := fun i => some (b + (ko + 3 * i + 2))) ha (fun j hj => hf j hj) (fun w3 n3_w3 uu3 => ?_)
    have n2_w3 := (uu3 ko (by omega)).trans n2_wx
    have fr_w3 : ∀ j, j < ko → w3 j = w j := fun j hj => (uu3 j (by omega)).trans (fr_wx j hj)
    have hpp_w3 := fun j hj => (hp j hj).fr (fun t _ _ => uu3 t (by omega))
    refine r_aload_n X eX1_init_40 rfl ?_
    refine nw_X1_18 X Y eX1_init_41 (by omega) (by omega) (by omega) (fun w4 n4_w4 uu4 => ?_)
    have n2_w4 := (uu4 ko (by omega)).trans n2_w3
    have n3_w4 := (uu4 (ko + 1) (by omega)).trans n3_w3
    have fr_w4 : ∀ j, j < ko → w4 j = w j := fun j hj => (uu4 j (by omega)).trans (fr_w3 j hj)
    have hpp_w4 := fun j hj => (hpp_w3 j hj).fr (fun t _ _ => uu4 t (by omega))
    refine r_dup X eX1_init_44 rfl ?_
    refine kc_X1_20 X Y eX1_init_45 (c_X4_init _ G b w4 (ko + 23) n4_w4) (by decide) rfl (Nat.le_of_ble_eq_true rfl) (by omega) (by omega) (by omega) (fun w5 hp5 => ?_)
    obtain ⟨pp5_w5, uu5⟩ := hp5
    have n2_w5 := (uu5 ko (by omega)).trans n2_w4
    have n3_w5 := (uu5 (ko + 1) (by omega)).trans n3_w4
    have fr_w5 : ∀ j, j < ko → w5 j = w j := fun j hj => (uu5 j (by omega)).trans (fr_w4 j hj)
    have hpp_w5 := fun j hj => (hpp_w4 j hj).fr (fun t _ _ => uu5 t (by omega))
    refine pF_X1_21 X hi eX1_init_48 (by omega) n2_w5 (fun w6 n6_w6 uu6 => ?_)
    have n3_w6 := (uu6 (ko + 1) (by omega)).trans n3_w5
    have fr_w6 : ∀ j, j < ko → w6 j = w j := fun j hj => (uu6 j (by omega)).trans (fr_w5 j hj)
    have hpp_w6 := fun j hj => (hpp_w5 j hj).fr (fun t _ _ => uu6 t (by omega))
    have pp5_w6 := pp5_w5.fr (fun j _ _ => uu6 j (by omega))
    refine r_nu (ν2 := (ko + 1 + 26, 26, 1079)) (nu_eq (by omega) (by omega) (by omega)) ?_
    exact ret _ _ _ _ eX1_init_51 (⟨⟨n6_w6, n3_w6, fun i hi => ⟨0, P0, hpp_w6 i hi⟩, pp5_w6⟩, fr_w6⟩)
  have lp : ∀ (fu i : Nat) (f : Nat → Option Nat) (wl : Wd), i ≤ 7 → (wl (ko + 1) = aP G 7 f) → (∀ j, j < i → f j = some (b + (ko + 3 * j + 2))) → (∀ j, j < i → isP G b wl (ko + 3 * j + 2) 0 P0) → (∀ j, j < (ko + 2) → j ≠ (ko + 1) → wl j = w2 j) → 7 - i < fu → V κ G b (ko + 3 * i + 2, 1 + 3 * i, 7 + 133 * i) wl 15 [some (.ref (b + ko)), some (.int (nI i))] [] := by
    intro fu
    induction fu with
    | zero => intro i f wl hi0 ha hf hp hfr hm; exact absurd hm (Nat.not_lt_zero _)
    | succ fu ih =>
      intro i f wl hi0 ha hf hp hfr hm
      have ho := (hfr ko (by omega) (by omega)).trans n2_w2
      refine r_iload_n X eX1_init_15 rfl ?_
      refine r_bipush X eX1_init_16 (nI 6) (by decide) ?_
      refine r_icmp_gt (tgt := 40) X eX1_init_18 (by decide) (nI_toInt (by omega)) (nI_toInt (by omega)) (fun c1 => ?_) (fun c1 => ?_)
      · obtain rfl : i = 7 := by omega
        exact hx f wl ha hf hp hfr
      · have hi1 : i < 7 := by omega
        refine r_aload_n X eX1_init_21 rfl ?_
        refine gf_X1_11 X eX1_init_22 (by show _ < ko + 3 * i + 2; omega) ho ?_
        refine r_iload_n X eX1_init_25 rfl ?_
        refine nw_X1_9 X Y eX1_init_26 (by omega) (by omega) (by omega) (fun wa na ua => ?_)
        refine r_dup X eX1_init_29 rfl ?_
        refine kc_X1_17 X Y eX1_init_30 (c_X3_init _ G b wa (ko + 3 * i + 2) na) (by decide) rfl (Nat.le_of_ble_eq_true rfl) (by omega) (by omega) (by omega) (fun wb hb => ?_)
        obtain ⟨pb, ub⟩ := hb
        obtain ⟨fs, hfs⟩ := pb.cell
        have ha2 := (ub (ko + 1) (by omega)).trans ((ua (ko + 1) (by omega)).trans ha)
        refine r_aast X eX1_init_33 (by show _ < ko + 3 * i + 2 + 1 + 2; omega) ha2 (by show _ < ko + 3 * i + 2 + 1 + 2; omega) hfs (by omega) (by decide) (fun wc nc uc => ?_)
        refine r_iinc X eX1_init_34 rfl (nI (i + 1)) (inc_nI _) (L2 := [some (.ref (b + ko)), some (.int (nI (i + 1)))]) rfl ?_
        refine r_goto (tgt := 15) X eX1_init_37 (by decide) ?_
        refine r_nu (ν2 := (ko + 3 * (i + 1) + 2, 1 + 3 * (i + 1), 7 + 133 * (i + 1))) (nu_eq (by omega) (by omega) (by omega)) ?_
        refine ih (i + 1) _ wc (by omega) nc (fun j hj => ?_) (fun j hj => ?_) (fun j h1 h2 => ?_) (by omega)
        · rcases Nat.lt_or_eq_of_le (Nat.le_of_lt_succ hj) with hj1 | hj1
          · rw [va_up_ne _ _ (by omega)]; exact hf j hj1
          · rw [hj1, va_up_self]
        · rcases Nat.lt_or_eq_of_le (Nat.le_of_lt_succ hj) with hj1 | hj1
          · exact (hp j hj1).fr (fun t h1 h2 => (uc t (by omega)).trans ((ub t (by omega)).trans (ua t (by omega))))
          · rw [hj1]; exact pb.fr (fun t h1 h2 => uc t (by omega))
        · exact (uc j h2).trans ((ub j (by omega)).trans ((ua j (by omega)).trans (hfr j h1 h2)))
  refine r_nu (ν2 := (ko + 3 * 0 + 2, 1 + 3 * 0, 7 + 133 * 0)) (nu_eq (by omega) (by omega) (by omega)) ?_
  exact lp _ 0 _ w2 (by omega) n1_w2 (fun j hj => absurd hj (by omega)) (fun j hj => absurd hj (by omega)) (fun _ _ _ => rfl) (Nat.lt_succ_self _)
set_option maxHeartbeats 4000000 in
set_option maxRecDepth 100000 in
theorem c_X0_init (l : Launch) (G : Gs) (b : Nat) (w : Wd) (ko : Nat) (ho : w ko = .inr (0, [.null, .null, .null, .null])) : CK l yX0_init cX0_init 2 2 G b (ko + 1) w [.ref (b + ko)] 31 1227 (fun w2 => ctW G b w2 ko ∧ ∀ j, j < ko → w2 j = w j) := by
  refine CK_of (L0 := [some (.ref (b + ko)), none]) (by decide) rfl rfl (by simp [Value.category]) rfl (Nat.le_of_ble_eq_true rfl) (fun κ X Y hi ret => ?_)
  have fr_w : ∀ j, j < ko → w j = w j := fun _ _ => rfl
  refine r_aload_n X eX0_init_0 rfl ?_
  refine r_obj X eX0_init_1 qw_69 rfl (Nat.le_of_ble_eq_true rfl) ?_
  refine r_aload_n X eX0_init_4 rfl ?_
  refine r_bipush X eX0_init_5 (nI 7) (by decide) ?_
  refine r_newP X Y eX0_init_7 qw_70 (by decide) (by omega) (by omega) (by omega) (fun w1 n1_w1 uu1 => ?_)
  have ho_w1 := (uu1 ko (by omega)).trans ho
  have fr_w1 : ∀ j, j < ko → w1 j = w j := fun j hj => (uu1 j (by omega)).trans (fr_w j hj)
  refine pF_X0_11 X hi eX0_init_10 (by omega) ho_w1 (fun w2 n2_w2 uu2 => ?_)
  have n1_w2 := (uu2 (ko + 1) (by omega)).trans n1_w1
  have fr_w2 : ∀ j, j < ko → w2 j = w j := fun j hj => (uu2 j (by omega)).trans (fr_w1 j hj)
  refine r_iconst X eX0_init_13 (nI 0) (by decide) ?_
  refine r_istore_n X eX0_init_14 (Nat.le_of_ble_eq_true rfl) (L2 := [some (.ref (b + ko)), some (.int (nI 0))]) rfl ?_
  have hx : ∀ (f : Nat → Option Nat) (wx : Wd), (wx (ko + 1) = aP G 7 f) → (∀ j, j < 7 → f j = some (b + (ko + 3 * j + 2))) → (∀ j, j < 7 → isP G b wx (ko + 3 * j + 2) 0 P0) → (∀ j, j < (ko + 2) → j ≠ (ko + 1) → wx j = w2 j) → V κ G b (ko + 3 * 7 + 2, 1 + 3 * 7, 7 + 133 * 7) wx 40 [some (.ref (b + ko)), some (.int (nI 7))] [] := by
    intro f wx ha hf hp hfr
    have n2_wx := (hfr ko (by omega) (by omega)).trans n2_w2
    have fr_wx : ∀ j, j < ko → wx j = w j := fun j hj => (hfr j (by omega) (by omega)).trans (fr_w2 j hj)
    refine r_ext (g := fun i => some (b + (ko + 3 * i + 2))) ha (fun j hj => hf j hj) (fun w3 n3_w3 uu3 => ?_)
    have n2_w3 := (uu3 ko (by omega)).trans n2_wx
    have fr_w3 : ∀ j, j < ko → w3 j = w j := fun j hj => (uu3 j (by omega)).trans (fr_wx j hj)
    have hpp_w3 := fun j hj => (hp j hj).fr (fun t _ _ => uu3 t (by omega))
    refine r_aload_n X eX0_init_40 rfl ?_
    refine r_bipush X eX0_init_41 (nI 7) (by decide) ?_
    refine r_newI X Y eX0_init_43 (by decide) (by omega) (by omega) (by omega) (fun w4 n4_w4 uu4 => ?_)
    have n2_w4 := (uu4 ko (by omega)).trans n2_w3
    have n3_w4 := (uu4 (ko + 1) (by omega)).trans n3_w3
    have fr_w4 : ∀ j, j < ko → w4 j = w j := fun j hj => (uu4 j (by omega)).trans (fr_w3 j hj)
    have hpp_w4 := fun j hj => (hpp_w3 j hj).fr (fun t _ _ => uu4 t (by omega))
    refine pF_X0_18 X hi eX0_init_45 (by omega) n2_w4 (fun w5 n5_w5 uu5 => ?_)
    have n3_w5 := (uu5 (ko + 1) (by omega)).trans n3_w4
    have n4_w5 := (uu5 (ko + 23) (by omega)).trans n4_w4
    have fr_w5 : ∀ j, j < ko → w5 j = w j := fun j hj => (uu5 j (by omega)).trans (fr_w4 j hj)
    have hpp_w5 := fun j hj => (hpp_w4 j hj).fr (fun t _ _ => uu5 t (by omega))
    refine r_aload_n X eX0_init_48 rfl ?_
    refine nw_X0_22 X Y eX0_init_49 (by omega) (by omega) (by omega) (fun w6 n6_w6 uu6 => ?_)
    have n5_w6 := (uu6 ko (by omega)).trans n5_w5
    have n3_w6 := (uu6 (ko + 1) (by omega)).trans n3_w5
    have n4_w6 := (uu6 (ko + 23) (by omega)).trans n4_w5
    have fr_w6 : ∀ j, j < ko → w6 j = w j := fun j hj => (uu6 j (by omega)).trans (fr_w5 j hj)
    have hpp_w6 := fun j hj => (hpp_w5 j hj).fr (fun t _ _ => uu6 t (by omega))
    refine r_dup X eX0_init_52 rfl ?_
    refine kc_X0_24 X Y eX0_init_53 (c_X4_init _ G b w6 (ko + 24) n6_w6) (by decide) rfl (Nat.le_of_ble_eq_true rfl) (by omega) (by omega) (by omega) (fun w7 hp7 => ?_)
    obtain ⟨pp7_w7, uu7⟩ := hp7
    have n5_w7 := (uu7 ko (by omega)).trans n5_w6
    have n3_w7 := (uu7 (ko + 1) (by omega)).trans n3_w6
    have n4_w7 := (uu7 (ko + 23) (by omega)).trans n4_w6
    have fr_w7 : ∀ j, j < ko → w7 j = w j := fun j hj => (uu7 j (by omega)).trans (fr_w6 j hj)
    have hpp_w7 := fun j hj => (hpp_w6 j hj).fr (fun t _ _ => uu7 t (by omega))
    refine pF_X0_25 X hi eX0_init_56 (by omega) n5_w7 (fun w8 n8_w8 uu8 => ?_)
    have n3_w8 := (uu8 (ko + 1) (by omega)).trans n3_w7
    have n4_w8 := (uu8 (ko + 23) (by omega)).trans n4_w7
    have fr_w8 : ∀ j, j < ko → w8 j = w j := fun j hj => (uu8 j (by omega)).trans (fr_w7 j hj)
    have hpp_w8 := fun j hj => (hpp_w7 j hj).fr (fun t _ _ => uu8 t (by omega))
    have pp7_w8 := pp7_w7.fr (fun j _ _ => uu8 j (by omega))
    refine r_aload_n X eX0_init_59 rfl ?_
    refine nw_X0_22 X Y eX0_init_60 (by omega) (by omega) (by omega) (fun w9 n9_w9 uu9 => ?_)
    have n8_w9 := (uu9 ko (by omega)).trans n8_w8
    have n3_w9 := (uu9 (ko + 1) (by omega)).trans n3_w8
    have n4_w9 := (uu9 (ko + 23) (by omega)).trans n4_w8
    have fr_w9 : ∀ j, j < ko → w9 j = w j := fun j hj => (uu9 j (by omega)).trans (fr_w8 j hj)
    have hpp_w9 := fun j hj => (hpp_w8 j hj).fr (fun t _ _ => uu9 t (by omega))
    have pp7_w9 := pp7_w8.fr (fun j _ _ => uu9 j (by omega))
    refine r_dup X eX0_init_63 rfl ?_
    refine kc_X0_24 X Y eX0_init_64 (c_X4_init _ G b w9 (ko + 28) n9_w9) (by decide) rfl (Nat.le_of_ble_eq_true rfl) (by omega) (by omega) (by omega) (fun w10 hp10 => ?_)
    obtain ⟨pp10_w10, uu10⟩ := hp10
    have n8_w10 := (uu10 ko (by omega)).trans n8_w9
    have n3_w10 := (uu10 (ko + 1) (by omega)).trans n3_w9
    have n4_w10 := (uu10 (ko + 23) (by omega)).trans n4_w9
    have fr_w10 : ∀ j, j < ko → w10 j = w j := fun j hj => (uu10 j (by omega)).trans (fr_w9 j hj)
    have hpp_w10 := fun j hj => (hpp_w9 j hj).fr (fun t _ _ => uu10 t (by omega))
    have pp7_w10 := pp7_w9.fr (fun j _ _ => uu10 j (by omega))
    refine pF_X0_29 X hi eX0_init_67 (by omega) n8_w10 (fun w11 n11_w11 uu11 => ?_)
    have n3_w11 := (uu11 (ko + 1) (by omega)).trans n3_w10
    have n4_w11 := (uu11 (ko + 23) (by omega)).trans n4_w10
    have fr_w11 : ∀ j, j < ko → w11 j = w j := fun j hj => (uu11 j (by omega)).trans (fr_w10 j hj)
    have hpp_w11 := fun j hj => (hpp_w10 j hj).fr (fun t _ _ => uu11 t (by omega))
    have pp7_w11 := pp7_w10.fr (fun j _ _ => uu11 j (by omega))
    have pp10_w11 := pp10_w10.fr (fun j _ _ => uu11 j (by omega))
    refine r_nu (ν2 := (ko + 1 + 31, 31, 1227)) (nu_eq (by omega) (by omega) (by omega)) ?_
    exact ret _ _ _ _ eX0_init_70 (⟨⟨n11_w11, n3_w11, fun i hi => ⟨0, P0, hpp_w11 i hi⟩, ⟨_, n4_w11⟩, pp7_w11, pp10_w11⟩, fr_w11⟩)
  have lp : ∀ (fu i : Nat) (f : Nat → Option Nat) (wl : Wd), i ≤ 7 → (wl (ko + 1) = aP G 7 f) → (∀ j, j < i → f j = some (b + (ko + 3 * j + 2))) → (∀ j, j < i → isP G b wl (ko + 3 * j + 2) 0 P0) → (∀ j, j < (ko + 2) → j ≠ (ko + 1) → wl j = w2 j) → 7 - i < fu → V κ G b (ko + 3 * i + 2, 1 + 3 * i, 7 + 133 * i) wl 15 [some (.ref (b + ko)), some (.int (nI i))] [] := by
    intro fu
    induction fu with
    | zero => intro i f wl hi0 ha hf hp hfr hm; exact absurd hm (Nat.not_lt_zero _)
    | succ fu ih =>
      intro i f wl hi0 ha hf hp hfr hm
      have ho := (hfr ko (by omega) (by omega)).trans n2_w2
      refine r_iload_n X eX0_init_15 rfl ?_
      refine r_bipush X eX0_init_16 (nI 6) (by decide) ?_
      refine r_icmp_gt (tgt := 40) X eX0_init_18 (by decide) (nI_toInt (by omega)) (nI_toInt (by omega)) (fun c1 => ?_) (fun c1 => ?_)
      · obtain rfl : i = 7 := by omega
        exact hx f wl ha hf hp hfr
      · have hi1 : i < 7 := by omega
        refine r_aload_n X eX0_init_21 rfl ?_
        refine gf_X0_11 X eX0_init_22 (by show _ < ko + 3 * i + 2; omega) ho ?_
        refine r_iload_n X eX0_init_25 rfl ?_
        refine nw_X0_9 X Y eX0_init_26 (by omega) (by omega) (by omega) (fun wa na ua => ?_)
        refine r_dup X eX0_init_29 rfl ?_
        refine kc_X0_17 X Y eX0_init_30 (c_X3_init _ G b wa (ko + 3 * i + 2) na) (by decide) rfl (Nat.le_of_ble_eq_true rfl) (by omega) (by omega) (by omega) (fun wb hb => ?_)
        obtain ⟨pb, ub⟩ := hb
        obtain ⟨fs, hfs⟩ := pb.cell
        have ha2 := (ub (ko + 1) (by omega)).trans ((ua (ko + 1) (by omega)).trans ha)
        refine r_aast X eX0_init_33 (by show _ < ko + 3 * i + 2 + 1 + 2; omega) ha2 (by show _ < ko + 3 * i + 2 + 1 + 2; omega) hfs (by omega) (by decide) (fun wc nc uc => ?_)
        refine r_iinc X eX0_init_34 rfl (nI (i + 1)) (inc_nI _) (L2 := [some (.ref (b + ko)), some (.int (nI (i + 1)))]) rfl ?_
        refine r_goto (tgt := 15) X eX0_init_37 (by decide) ?_
        refine r_nu (ν2 := (ko + 3 * (i + 1) + 2, 1 + 3 * (i + 1), 7 + 133 * (i + 1))) (nu_eq (by omega) (by omega) (by omega)) ?_
        refine ih (i + 1) _ wc (by omega) nc (fun j hj => ?_) (fun j hj => ?_) (fun j h1 h2 => ?_) (by omega)
        · rcases Nat.lt_or_eq_of_le (Nat.le_of_lt_succ hj) with hj1 | hj1
          · rw [va_up_ne _ _ (by omega)]; exact hf j hj1
          · rw [hj1, va_up_self]
        · rcases Nat.lt_or_eq_of_le (Nat.le_of_lt_succ hj) with hj1 | hj1
          · exact (hp j hj1).fr (fun t h1 h2 => (uc t (by omega)).trans ((ub t (by omega)).trans (ua t (by omega))))
          · rw [hj1]; exact pb.fr (fun t h1 h2 => uc t (by omega))
        · exact (uc j h2).trans ((ub j (by omega)).trans ((ua j (by omega)).trans (hfr j h1 h2)))
  refine r_nu (ν2 := (ko + 3 * 0 + 2, 1 + 3 * 0, 7 + 133 * 0)) (nu_eq (by omega) (by omega) (by omega)) ?_
  exact lp _ 0 _ w2 (by omega) n1_w2 (fun j hj => absurd hj (by omega)) (fun j hj => absurd hj (by omega)) (fun _ _ _ => rfl) (Nat.lt_succ_self _)
