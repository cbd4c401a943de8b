/-! the class's picture methods, in the words of the specification -/
theorem p_lines (l : Launch) (G : Gs) (b N : Nat) (w : Wd) (k : Nat) (hk : k + 3 ≤ N) (lw : Nat) (P : Pc) (hp : isP G b w k lw P) (way : Nat) (hw : way < 2) : CI l yX3_lines cX3_lines 2 (some .int) 0 G b N w [.ref (b + k), .int (nI way)] (fun r w2 => r = nI (nlP P way) ∧ w2 = w) := by
  obtain ⟨ga, ma, h1, _⟩ := hp
  exact c_X3_lines l G b N w k hk P.1 P.2.1 lw ga ma h1 way hw
theorem p_breadth (l : Launch) (G : Gs) (b N : Nat) (w : Wd) (k : Nat) (hk : k + 3 ≤ N) (lw : Nat) (P : Pc) (hp : isP G b w k lw P) (way : Nat) (hw : way < 2) : CI l yX3_breadth cX3_breadth 2 (some .int) 0 G b N w [.ref (b + k), .int (nI way)] (fun r w2 => r = nI (nbP P way) ∧ w2 = w) := by
  obtain ⟨ga, ma, h1, _⟩ := hp
  exact c_X3_breadth l G b N w k hk P.1 P.2.1 lw ga ma h1 way hw
theorem p_hasDot (l : Launch) (G : Gs) (b N : Nat) (w : Wd) (k : Nat) (hk : k + 3 ≤ N) (lw : Nat) (P : Pc) (hp : isP G b w k lw P) (x y : Int32) : CI l yX3_hasDot cX3_hasDot 3 (some .boolean) 0 G b N w [.ref (b + k), .int x, .int y] (fun r w2 => r = bI (dotC P x y) ∧ w2 = w) := by
  obtain ⟨ga, ma, h1, _⟩ := hp
  exact c_X3_hasDot l G b N w k hk P.1 P.2.1 lw ga ma h1 x y
theorem p_greyAt (l : Launch) (G : Gs) (b N : Nat) (w : Wd) (k : Nat) (hk : k + 3 ≤ N) (lw : Nat) (P : Pc) (hp : isP G b w k lw P) (x y : Nat) (hx : x < P.1) (hy : y < P.2.1) : CI l yX3_greyAt cX3_greyAt 4 (some .int) 1 G b N w [.ref (b + k), .int (nI 0), .int (nI y), .int (nI x)] (fun r w2 => r = P.2.2.1 x y ∧ w2 = w) := by
  have hP := hp.ok
  obtain ⟨ga, ma, h1, h2⟩ := hp
  refine (c_X3_greyAt l G b N w k hk P.1 P.2.1 lw ga ma h1 0 y x (by omega) (by have := hP.2.2.2; omega) (by have := hP.2.1; omega)).mono ?_
  rintro r w2 ⟨a1, a2⟩
  exact ⟨a1.trans (h2 x y hx hy).1, a2⟩
theorem p_markAt (l : Launch) (G : Gs) (b N : Nat) (w : Wd) (k : Nat) (hk : k + 3 ≤ N) (lw : Nat) (P : Pc) (hp : isP G b w k lw P) (x y : Nat) (hx : x < P.1) (hy : y < P.2.1) : CI l yX3_markAt cX3_markAt 4 (some .int) 1 G b N w [.ref (b + k), .int (nI 0), .int (nI y), .int (nI x)] (fun r w2 => r = P.2.2.2 x y ∧ w2 = w) := by
  have hP := hp.ok
  obtain ⟨ga, ma, h1, h2⟩ := hp
  refine (c_X3_markAt l G b N w k hk P.1 P.2.1 lw ga ma h1 0 y x (by omega) (by have := hP.2.2.2; omega) (by have := hP.2.1; omega)).mono ?_
  rintro r w2 ⟨a1, a2⟩
  exact ⟨a1.trans (h2 x y hx hy).2, a2⟩
theorem wt_agr {P : Pc} {ga ma : Nat → Int32} (h : agr P ga ma) {x y : Nat} (hx : x < P.1) (hy : y < P.2.1) : gapS P.1 (vg 0 ga) y x + vgapS P.2.1 (vg 0 ga) y x = edS P x y ∧ wtS P.1 P.2.1 (vg 0 ga) (vg 0 ma) y x = wgS P x y := by
  have v : ∀ l p, l < P.2.1 → p < P.1 → vg 0 ga l p = vw 0 P.2.2.1 l p ∧ vg 0 ma l p = vw 0 P.2.2.2 l p := fun l p hl hp => agr_v h (by omega) hl hp
  have a1 := (v y (x - 1) hy (by omega)).1
  have a2 := (v y (min (x + 1) (P.1 - 1)) hy (by omega)).1
  have a3 := (v (y - 1) x (by omega) hx).1
  have a4 := (v (min (y + 1) (P.2.1 - 1)) x (by omega) hx).1
  have a5 := (v y x hy hx).2
  constructor
  · rw [edS, gapS, gapS, vgapS, vgapS, a1, a2, a3, a4]
  · rw [wgS, wtS, wtS, gapS, gapS, vgapS, vgapS, exS, exS, a1, a2, a3, a4, a5]
theorem p_edge (l : Launch) (G : Gs) (b N : Nat) (w : Wd) (k : Nat) (hk : k + 3 ≤ N) (lw : Nat) (P : Pc) (hp : isP G b w k lw P) (x y : Nat) (hx : x < P.1) (hy : y < P.2.1) : CI l yX3_edgeAt cX3_edgeAt 3 (some .int) 2 G b N w [.ref (b + k), .int (nI x), .int (nI y)] (fun r w2 => r = edS P x y ∧ w2 = w) := by
  obtain ⟨ga, ma, h1, h2⟩ := hp
  refine (c_X3_edgeAt l G b N w k hk P.1 P.2.1 lw ga ma h1 x y hx hy).mono ?_
  rintro r w2 ⟨a1, a2⟩
  exact ⟨a1.trans (wt_agr h2 hx hy).1, a2⟩
theorem p_weight (l : Launch) (G : Gs) (b N : Nat) (w : Wd) (k : Nat) (hk : k + 3 ≤ N) (lw : Nat) (P : Pc) (hp : isP G b w k lw P) (x y : Nat) (hx : x < P.1) (hy : y < P.2.1) : CI l yX3_weightAt cX3_weightAt 3 (some .int) 3 G b N w [.ref (b + k), .int (nI x), .int (nI y)] (fun r w2 => r = wgS P x y ∧ w2 = w) := by
  obtain ⟨ga, ma, h1, h2⟩ := hp
  refine (c_X3_weightAt l G b N w k hk P.1 P.2.1 lw ga ma h1 x y hx hy).mono ?_
  rintro r w2 ⟨a1, a2⟩
  exact ⟨a1.trans (wt_agr h2 hx hy).2, a2⟩
theorem p_row (l : Launch) (G : Gs) (b N : Nat) (w : Wd) (k : Nat) (hk : k + 3 ≤ N) (lw : Nat) (P : Pc) (hp : isP G b w k lw P) (y : Nat) (hy : y < P.2.1) : CI l yX3_lightestInRow cX3_lightestInRow 4 (some .int) 4 G b N w [.ref (b + k), .int (nI y)] (fun r w2 => r = nI (leS P 0 y) ∧ w2 = w) := by
  have hP := hp.ok
  obtain ⟨ga, ma, h1, h2⟩ := hp
  refine (c_X3_lightestInRow l G b N w k hk P.1 P.2.1 lw ga ma h1 y hy).mono ?_
  rintro r w2 ⟨a1, a2⟩
  refine ⟨a1.trans (congrArg nI (am_congr (fun j _ hj => ?_))), a2⟩
  have hP1 := hP.1
  exact (wt_agr h2 (by omega) hy).2
theorem wg_t {P : Pc} {x y : Nat} : wgS P x y = wtS P.2.1 P.1 (vw 1 P.2.2.1) (vw 1 P.2.2.2) x y := by
  have e : gapS P.1 (vw 0 P.2.2.1) y x = vgapS P.1 (vw 1 P.2.2.1) x y := rfl
  have e2 : vgapS P.2.1 (vw 0 P.2.2.1) y x = gapS P.2.1 (vw 1 P.2.2.1) x y := rfl
  have e3 : exS (vw 0 P.2.2.2) y x = exS (vw 1 P.2.2.2) x y := rfl
  rw [wgS, wtS, wtS, e, e2, e3, Int32.add_comm (vgapS _ _ _ _)]
theorem p_col (l : Launch) (G : Gs) (b N : Nat) (w : Wd) (k : Nat) (hk : k + 3 ≤ N) (lw : Nat) (P : Pc) (hp : isP G b w k lw P) (x : Nat) (hx : x < P.1) : CI l yX3_lightestInColumn cX3_lightestInColumn 4 (some .int) 4 G b N w [.ref (b + k), .int (nI x)] (fun r w2 => r = nI (leS P 1 x) ∧ w2 = w) := by
  have hP := hp.ok
  obtain ⟨ga, ma, h1, h2⟩ := hp
  refine (c_X3_lightestInColumn l G b N w k hk P.1 P.2.1 lw ga ma h1 x hx).mono ?_
  rintro r w2 ⟨a1, a2⟩
  refine ⟨a1.trans (congrArg nI (am_congr (fun j _ hj => ?_))), a2⟩
  have hP1 := hP.2.2.1
  exact ((wt_agr h2 hx (by omega)).2).trans wg_t
theorem p_sum (l : Launch) (G : Gs) (b N : Nat) (w : Wd) (k : Nat) (hk : k + 3 ≤ N) (lw : Nat) (P : Pc) (hp : isP G b w k lw P) : CI l yX3_sumOfGreys cX3_sumOfGreys 4 (some .int) 2 G b N w [.ref (b + k)] (fun r w2 => r = sumG P ∧ w2 = w) := by
  obtain ⟨ga, ma, h1, h2⟩ := hp
  refine (c_X3_sumOfGreys l G b N w k hk P.1 P.2.1 lw ga ma h1).mono ?_
  rintro r w2 ⟨a1, a2⟩
  exact ⟨a1.trans (sm_congr (fun y hy => sm_congr (fun x hx => (h2 x y hx hy).1))), a2⟩
theorem p_marked (l : Launch) (G : Gs) (b N : Nat) (w : Wd) (k : Nat) (hk : k + 3 ≤ N) (lw : Nat) (P : Pc) (hp : isP G b w k lw P) (m : Int32) : CI l yX3_dotsMarked cX3_dotsMarked 5 (some .int) 2 G b N w [.ref (b + k), .int m] (fun r w2 => r = cntM P m ∧ w2 = w) := by
  obtain ⟨ga, ma, h1, h2⟩ := hp
  refine (c_X3_dotsMarked l G b N w k hk P.1 P.2.1 lw ga ma h1 m).mono ?_
  rintro r w2 ⟨a1, a2⟩
  refine ⟨a1.trans (sm_congr (fun y hy => sm_congr (fun x hx => ?_))), a2⟩
  show (if ma (ix 0 y x) = m then (1 : Int32) else 0) = if P.2.2.2 x y = m then 1 else 0
  rw [(h2 x y hx hy).2]
theorem p_changeGrey (l : Launch) (G : Gs) (b N : Nat) (w : Wd) (k : Nat) (hk : k + 3 ≤ N) (lw : Nat) (P : Pc) (hp : isP G b w k lw P) (x y : Nat) (hx : x < P.1) (hy : y < P.2.1) (v : Int32) : CI l yX3_changeGrey cX3_changeGrey 6 (some .int) 1 G b N w [.ref (b + k), .int (nI x), .int (nI y), .int v] (fun r w2 => r = P.2.2.1 x y ∧ isP G b w2 k lw (P.1, P.2.1, setG P.2.2.1 x y v, P.2.2.2) ∧ ∀ j, (j < k ∨ k + 3 ≤ j) → w2 j = w j) := by
  have hP := hp.ok
  obtain ⟨ga, ma, h1, h2⟩ := hp
  refine (c_X3_changeGrey l G b N w k hk P.1 P.2.1 lw ga ma h1 x y (by have := hP.2.1; omega) (by have := hP.2.2.2; omega) v).mono ?_
  rintro r w2 ⟨a1, a2, a3⟩
  exact ⟨a1.trans (h2 x y hx hy).1, ⟨_, _, a2, agr_set hP h2 hx hy⟩, a3⟩
theorem p_changeMark (l : Launch) (G : Gs) (b N : Nat) (w : Wd) (k : Nat) (hk : k + 3 ≤ N) (lw : Nat) (P : Pc) (hp : isP G b w k lw P) (x y : Nat) (hx : x < P.1) (hy : y < P.2.1) (v : Int32) : CI l yX3_changeMark cX3_changeMark 6 (some .int) 1 G b N w [.ref (b + k), .int (nI x), .int (nI y), .int v] (fun r w2 => r = P.2.2.2 x y ∧ isP G b w2 k lw (P.1, P.2.1, P.2.2.1, setG P.2.2.2 x y v) ∧ ∀ j, (j < k ∨ k + 3 ≤ j) → w2 j = w j) := by
  have hP := hp.ok
  obtain ⟨ga, ma, h1, h2⟩ := hp
  refine (c_X3_changeMark l G b N w k hk P.1 P.2.1 lw ga ma h1 x y (by have := hP.2.1; omega) (by have := hP.2.2.2; omega) v).mono ?_
  rintro r w2 ⟨a1, a2, a3⟩
  exact ⟨a1.trans (h2 x y hx hy).2, ⟨_, _, a2, agr_setM hP h2 hx hy⟩, a3⟩
theorem p_blank (l : Launch) (G : Gs) (b N : Nat) (w : Wd) (k : Nat) (hk : k + 3 ≤ N) (lw : Nat) (P : Pc) (hp : isP G b w k lw P) (nw nh : Nat) (h1 : 2 ≤ nw) (h2 : nw ≤ 8) (h3 : 2 ≤ nh) (h4 : nh ≤ 8) : CV l yX3_blank cX3_blank 4 0 G b N w [.ref (b + k), .int (nI nw), .int (nI nh)] (fun w2 => isP G b w2 k lw (nw, nh, fun _ _ => 0, fun _ _ => 0) ∧ ∀ j, (j < k ∨ k + 3 ≤ j) → w2 j = w j) := by
  obtain ⟨ga, ma, hh, _⟩ := hp
  refine (c_X3_blank l G b N w k hk P.1 P.2.1 lw ga ma hh nw nh h1 h2 h3 h4).mono ?_
  rintro w2 ⟨ga2, ma2, a1, a2, a3⟩
  refine ⟨⟨ga2, ma2, a1, fun x y hx hy => ?_⟩, a3⟩
  have hx : x < nw := hx
  have hy : y < nh := hy
  exact a2 _ (ix_lt (by omega) (by omega))
theorem p_lay0 (l : Launch) (G : Gs) (b N : Nat) (w : Wd) (k : Nat) (hk : k + 3 ≤ N) (lw : Nat) (P : Pc) (hp : isP G b w k lw P) (kp : Nat) (hkp : kp + 2 ≤ N) (n : Nat) (sg : Nat → Int32) (hpd : isPad G b w kp n sg) (hdj : kp + 2 ≤ k ∨ k + 3 ≤ kp) : CI l yX2_layOn cX2_layOn 8 (some .int) 2 G b N w [.ref (b + kp), .ref (b + k), .int (nI 0)] (fun r w2 => r = layC P sg 0 ∧ isP G b w2 k lw (layP P sg 0) ∧ ∀ j, (j < k ∨ k + 3 ≤ j) → w2 j = w j) := by
  obtain ⟨ga, ma, h1, h2⟩ := hp
  refine (c_X2_layOn_0 l G b N w kp hkp n sg hpd k hdj hk P.1 P.2.1 lw ga ma h1).mono ?_
  rintro r w2 ⟨a1, ⟨A, a2, a3⟩, a4⟩
  refine ⟨a1.trans (sm_congr (fun y hy => sm_congr (fun x hx => ?_))), ⟨A, ma, a2, fun x y hx hy => ⟨a3 y x hy hx, (h2 x y hx hy).2⟩⟩, a4⟩
  show (if ga (ix 0 y x) = vS 0 (sg (y * (P.1 + 1) + x)) then (0 : Int32) else 1) = if P.2.2.1 x y = vS 0 (sg (y * (P.1 + 1) + x)) then 0 else 1
  rw [(h2 x y hx hy).1]
theorem p_lay1 (l : Launch) (G : Gs) (b N : Nat) (w : Wd) (k : Nat) (hk : k + 3 ≤ N) (lw : Nat) (P : Pc) (hp : isP G b w k lw P) (kp : Nat) (hkp : kp + 2 ≤ N) (n : Nat) (sg : Nat → Int32) (hpd : isPad G b w kp n sg) (hdj : kp + 2 ≤ k ∨ k + 3 ≤ kp) : CI l yX2_layOn cX2_layOn 8 (some .int) 2 G b N w [.ref (b + kp), .ref (b + k), .int (nI 1)] (fun r w2 => r = layC P sg 1 ∧ isP G b w2 k lw (layP P sg 1) ∧ ∀ j, (j < k ∨ k + 3 ≤ j) → w2 j = w j) := by
  obtain ⟨ga, ma, h1, h2⟩ := hp
  refine (c_X2_layOn_1 l G b N w kp hkp n sg hpd k hdj hk P.1 P.2.1 lw ga ma h1).mono ?_
  rintro r w2 ⟨a1, ⟨A, a2, a3⟩, a4⟩
  refine ⟨a1.trans (sm_congr (fun y hy => sm_congr (fun x hx => ?_))), ⟨ga, A, a2, fun x y hx hy => ⟨(h2 x y hx hy).1, a3 y x hy hx⟩⟩, a4⟩
  show (if ma (ix 0 y x) = vS 1 (sg (y * (P.1 + 1) + x)) then (0 : Int32) else 1) = if P.2.2.2 x y = vS 1 (sg (y * (P.1 + 1) + x)) then 0 else 1
  rw [(h2 x y hx hy).2]
theorem p_read (l : Launch) (G : Gs) (b N : Nat) (w : Wd) (k : Nat) (hk : k + 3 ≤ N) (lw : Nat) (P : Pc) (hp : isP G b w k lw P) (ks : Nat) (hks : ks + 4 ≤ N) (way0 : Nat) (tot : Int32) (pl ce go : Nat → Int32) (hs : isSm G b w ks way0 tot pl ce go) (hdj : ks + 4 ≤ k ∨ k + 3 ≤ ks) (way : Nat) (hw : way < 2) (m : Nat) (hm : m < 2 ^ 31) : CI l yX4_readNumber cX4_readNumber 7 (some .boolean) 4 G b N w [.ref (b + ks), .ref (b + k), .int (nI way), .int (nI m)] (fun r w2 => r = bI (okN m (nlP P way) (nbP P way)) ∧ (∃ tot2 pl2, isSm G b w2 ks way tot2 pl2 ce go ∧ (okN m (nlP P way) (nbP P way) → tot2 = costN lw P way m)) ∧ ∀ j, (j < ks ∨ ks + 4 ≤ j) → w2 j = w j) := by
  have hP := hp.ok
  obtain ⟨ga, ma, h1, h2⟩ := hp
  refine (c_X4_readNumber l G b N w ks hks way0 tot pl ce go hs k hk hdj P.1 P.2.1 lw ga ma h1 way hw m hm).mono ?_
  rintro r w2 ⟨tot2, pl2, a1, a2, a3, a4⟩
  refine ⟨a2, ⟨tot2, pl2, a1, fun hok => (a3 hok).trans (sm_congr (fun j hj => ?_))⟩, a4⟩
  have hj : j < nlP P way := hj
  exact agr_c h2 hw _ _ _ hj (hok.2.1 j hj) (hok.2.1 (j - 1) (by omega))
