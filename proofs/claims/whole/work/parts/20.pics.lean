theorem CV.mono {l : Launch} {y : MethodName} {bytes : ByteArray} {maxL h : Nat} {G : Gs} {b N : Nat} {w : Wd} {av : List Value} {post post2 : Wd → Prop} (H : CV l y bytes maxL h G b N w av post) (hi : ∀ w2, post w2 → post2 w2) : CV l y bytes maxL h G b N w av post2 :=
  by
  unfold CV Met at H ⊢
  refine MetFree.mono H (fun _ _ q => q) (fun _ _ _ _ _ q => q) (fun a s o s2 _ q => ?_)
  obtain ⟨⟨⟨u, h1, h2, h3⟩, h4⟩, h5⟩ := q
  exact ⟨⟨⟨u, h1, hi u h2, h3⟩, h4⟩, h5⟩
theorem CI.mono {l : Launch} {y : MethodName} {bytes : ByteArray} {maxL h : Nat} {ret : Option FieldType} {G : Gs} {b N : Nat} {w : Wd} {av : List Value} {post post2 : Int32 → Wd → Prop} (H : CI l y bytes maxL ret h G b N w av post) (hi : ∀ r w2, post r w2 → post2 r w2) : CI l y bytes maxL ret h G b N w av post2 :=
  by
  unfold CI Met at H ⊢
  refine MetFree.mono H (fun _ _ q => q) (fun _ _ _ _ _ q => q) (fun a s o s2 _ q => ?_)
  obtain ⟨⟨⟨r, u, h1, h2, h3⟩, h4⟩, h5⟩ := q
  exact ⟨⟨⟨r, u, h1, hi r u h2, h3⟩, h4⟩, h5⟩
/-! what is told depends on the dots in the picture alone -/
theorem sm_congr {f g : Nat → Int32} {n : Nat} (h : ∀ j, j < n → f j = g j) : sm f n = sm g n := by
  induction n with
  | zero => rfl
  | succ n ih => rw [sm, sm, ih (fun j hj => h j (by omega)), h n (by omega)]
theorem Rs_congr {c c2 : Nat → Nat → Nat → Int32} {nb nl : Nat} (hc : ∀ l p f, l < nl → p < nb → f < nb → c l p f = c2 l p f) : ∀ k p, k < nl → p < nb → Rs c nb nl k p = Rs c2 nb nl k p
  | 0, _, _, _ => rfl
  | k + 1, p, hk, hp => by
    have e : am (fun q => c (nl - 1 - k) q p + Rs c nb nl k q) (p - 1) (min (p + 1) (nb - 1) - (p - 1)) = am (fun q => c2 (nl - 1 - k) q p + Rs c2 nb nl k q) (p - 1) (min (p + 1) (nb - 1) - (p - 1)) :=
      am_congr (fun j _ hj => by
        show c (nl - 1 - k) j p + Rs c nb nl k j = c2 (nl - 1 - k) j p + Rs c2 nb nl k j
        rw [hc _ j p (by omega) (by omega) hp, Rs_congr hc k j (by omega) (by omega)])
    have hb := am_le (fun q => c2 (nl - 1 - k) q p + Rs c2 nb nl k q) (p - 1) (min (p + 1) (nb - 1) - (p - 1))
    rw [Rs, Rs, e, hc _ _ p (by omega) (by omega) hp, Rs_congr hc k _ (by omega) (by omega)]
theorem gN_congr {c c2 : Nat → Nat → Nat → Int32} {nb nl l p : Nat} (hc : ∀ l p f, l < nl → p < nb → f < nb → c l p f = c2 l p f) (hp : p < nb) : gN c nb nl l p = gN c2 nb nl l p := by
  unfold gN
  by_cases h : l + 1 < nl
  · rw [if_pos h, if_pos h]
    refine am_congr (fun j _ hj => ?_)
    show c (l + 1) j p + Rs c nb nl (nl - 2 - l) j = c2 (l + 1) j p + Rs c2 nb nl (nl - 2 - l) j
    rw [hc _ j p (by omega) (by omega) hp, Rs_congr hc _ j (by omega) (by omega)]
  · rw [if_neg h, if_neg h]
theorem s0_congr {c c2 : Nat → Nat → Nat → Int32} {nb nl : Nat} (h0 : 0 < nb) (h1 : 0 < nl) (hc : ∀ l p f, l < nl → p < nb → f < nb → c l p f = c2 l p f) : s0 c nb nl = s0 c2 nb nl := by
  unfold s0
  refine am_congr (fun j _ hj => ?_)
  show c 0 j j + Rs c nb nl (nl - 1) j = c2 0 j j + Rs c2 nb nl (nl - 1) j
  rw [hc _ j j (by omega) (by omega) (by omega), Rs_congr hc _ j (by omega) (by omega)]
theorem sS_congr {c c2 : Nat → Nat → Nat → Int32} {nb nl : Nat} (h0 : 0 < nb) (h1 : 0 < nl) (hc : ∀ l p f, l < nl → p < nb → f < nb → c l p f = c2 l p f) : ∀ l, sS c nb nl l = sS c2 nb nl l
  | 0 => s0_congr h0 h1 hc
  | l + 1 => by
    rw [sS, sS, sS_congr h0 h1 hc l, gN_congr hc (sS_lt h0 l)]
theorem toS_congr {c c2 : Nat → Nat → Nat → Int32} {nb nl : Nat} (h0 : 0 < nb) (h1 : 0 < nl) (hc : ∀ l p f, l < nl → p < nb → f < nb → c l p f = c2 l p f) : toS c nb nl = toS c2 nb nl := by
  have hl := s0_lt (c := c2) (nl := nl) h0
  rw [toS, toS, s0_congr h0 h1 hc, hc _ _ _ (by omega) hl hl, Rs_congr hc _ _ (by omega) hl]
theorem coS_congr {lw nb nl : Nat} {h h2 m m2 : Nat → Nat → Int32} (e : ∀ l p, l < nl → p < nb → h l p = h2 l p ∧ m l p = m2 l p) : ∀ l p f, l < nl → p < nb → f < nb → coS lw nb nl h m l p f = coS lw nb nl h2 m2 l p f := by
  intro l p f hl hp hf
  have a1 := (e l (p - 1) hl (by omega)).1
  have a2 := (e l (min (p + 1) (nb - 1)) hl (by omega)).1
  have a3 := (e (l - 1) p (by omega) hp).1
  have a4 := (e (min (l + 1) (nl - 1)) p (by omega) hp).1
  have a5 := (e l p hl hp).2
  simp only [coS, stS, tuS, exS, gapS, vgapS]
  rw [a1, a2, a3, a4, a5]
  by_cases c1 : lw = 0 ∨ f = p
  · rw [if_pos c1, if_pos c1]
  · rw [if_neg c1, if_neg c1]
    by_cases c2 : f < p
    · rw [if_pos c2, a1]
    · rw [if_neg c2, a2]
/-! pictures as mathematics: WIDE, HIGH, GREYS and MARKS by x and y -/
abbrev Pc : Type := Nat × Nat × (Nat → Nat → Int32) × (Nat → Nat → Int32)
def okPc (P : Pc) : Prop := 2 ≤ P.1 ∧ P.1 ≤ 8 ∧ 2 ≤ P.2.1 ∧ P.2.1 ≤ 8
def vw (way : Nat) (g : Nat → Nat → Int32) (l p : Nat) : Int32 := if way = 0 then g p l else g l p
def nbP (P : Pc) (way : Nat) : Nat := br way P.1 P.2.1
def nlP (P : Pc) (way : Nat) : Nat := li way P.1 P.2.1
def cA (lw : Nat) (P : Pc) (way : Nat) : Nat → Nat → Nat → Int32 := coS lw (nbP P way) (nlP P way) (vw way P.2.2.1) (vw way P.2.2.2)
def sA (lw : Nat) (P : Pc) (way : Nat) : Nat → Nat := sS (cA lw P way) (nbP P way) (nlP P way)
def tA (lw : Nat) (P : Pc) (way : Nat) : Int32 := toS (cA lw P way) (nbP P way) (nlP P way)
def kA (lw : Nat) (P : Pc) (way : Nat) : Int32 := sm (fun l => if vw way P.2.2.2 l (sA lw P way l) = 1 then 1 else 0) (nlP P way)
def cutG (way : Nat) (s : Nat → Nat) (g : Nat → Nat → Int32) (x y : Nat) : Int32 := if way = 0 then g (if x < s y then x else x + 1) y else g x (if y < s x then y else y + 1)
def cutP (lw : Nat) (P : Pc) (way : Nat) : Pc := (P.1 - (1 - way), P.2.1 - way, cutG way (sA lw P way) P.2.2.1, cutG way (sA lw P way) P.2.2.2)
def addG (way : Nat) (s : Nat → Nat) (mid : Nat → Int32) (g : Nat → Nat → Int32) (x y : Nat) : Int32 := if way = 0 then adS s mid (vw 0 g) y x else adS s mid (vw 1 g) x y
def addP (lw : Nat) (P : Pc) (way : Nat) : Pc := (P.1 + (1 - way), P.2.1 + way, addG way (sA lw P way) (midS (sA lw P way) (nbP P way) (vw way P.2.2.1)) P.2.2.1, addG way (sA lw P way) (fun _ => 0) P.2.2.2)
def agr (P : Pc) (ga ma : Nat → Int32) : Prop := ∀ x y, x < P.1 → y < P.2.1 → ga (ix 0 y x) = P.2.2.1 x y ∧ ma (ix 0 y x) = P.2.2.2 x y
theorem agr_v {P : Pc} {ga ma : Nat → Int32} (h : agr P ga ma) {way l p : Nat} (hw : way < 2) (hl : l < nlP P way) (hp : p < nbP P way) : vg way ga l p = vw way P.2.2.1 l p ∧ vg way ma l p = vw way P.2.2.2 l p := by
  rcases way_or hw with rfl | rfl
  · exact h p l hp hl
  · exact h l p hl hp
theorem agr_of {P : Pc} {ga ma : Nat → Int32} {way : Nat} (hw : way < 2) (h : ∀ l p, l < nlP P way → p < nbP P way → vg way ga l p = vw way P.2.2.1 l p ∧ vg way ma l p = vw way P.2.2.2 l p) : agr P ga ma := by
  intro x y hx hy
  rcases way_or hw with rfl | rfl
  · exact h y x hy hx
  · exact h x y hx hy
theorem okPc.pos {P : Pc} (h : okPc P) (way : Nat) : 2 ≤ nbP P way ∧ nbP P way ≤ 8 ∧ 2 ≤ nlP P way ∧ nlP P way ≤ 8 := by
  obtain ⟨a, b, c, d⟩ := h
  unfold nbP nlP br li
  split <;> omega
theorem agr_c {P : Pc} {ga ma : Nat → Int32} (h : agr P ga ma) {lw way : Nat} (hw : way < 2) : ∀ l p f, l < nlP P way → p < nbP P way → f < nbP P way → coS lw (nbP P way) (nlP P way) (vg way ga) (vg way ma) l p f = cA lw P way l p f :=
  coS_congr (fun l p hl hp => agr_v h hw hl hp)
theorem agr_s {P : Pc} {ga ma : Nat → Int32} (hP : okPc P) (h : agr P ga ma) {lw way : Nat} (hw : way < 2) (l : Nat) : sS (coS lw (nbP P way) (nlP P way) (vg way ga) (vg way ma)) (nbP P way) (nlP P way) l = sA lw P way l :=
  sS_congr (by have := hP.pos way; omega) (by have := hP.pos way; omega) (agr_c h hw) l
theorem agr_t {P : Pc} {ga ma : Nat → Int32} (hP : okPc P) (h : agr P ga ma) {lw way : Nat} (hw : way < 2) : toS (coS lw (nbP P way) (nlP P way) (vg way ga) (vg way ma)) (nbP P way) (nlP P way) = tA lw P way :=
  toS_congr (by have := hP.pos way; omega) (by have := hP.pos way; omega) (agr_c h hw)
theorem sA_lt {lw : Nat} {P : Pc} {way : Nat} (hP : okPc P) (l : Nat) : sA lw P way l < nbP P way := sS_lt (by have := hP.pos way; omega) l
theorem nb_cut {lw : Nat} {P : Pc} {way : Nat} (hw : way < 2) : nbP (cutP lw P way) way = nbP P way - 1 := by rcases way_or hw with rfl | rfl <;> rfl
theorem nl_cut {lw : Nat} {P : Pc} {way : Nat} (hw : way < 2) : nlP (cutP lw P way) way = nlP P way := by rcases way_or hw with rfl | rfl <;> rfl
theorem nb_add {lw : Nat} {P : Pc} {way : Nat} (hw : way < 2) : nbP (addP lw P way) way = nbP P way + 1 := by rcases way_or hw with rfl | rfl <;> rfl
theorem nl_add {lw : Nat} {P : Pc} {way : Nat} (hw : way < 2) : nlP (addP lw P way) way = nlP P way := by rcases way_or hw with rfl | rfl <;> rfl
theorem vw_cut {way : Nat} {s : Nat → Nat} {g : Nat → Nat → Int32} {l p : Nat} (hw : way < 2) : vw way (cutG way s g) l p = shS s (vw way g) l p := by rcases way_or hw with rfl | rfl <;> rfl
theorem vw_add {way : Nat} {s : Nat → Nat} {mid : Nat → Int32} {g : Nat → Nat → Int32} {l p : Nat} (hw : way < 2) : vw way (addG way s mid g) l p = adS s mid (vw way g) l p := by rcases way_or hw with rfl | rfl <;> rfl
theorem ok_cut {lw : Nat} {P : Pc} {way : Nat} (hw : way < 2) (hP : okPc P) (hb : 2 < nbP P way) : okPc (cutP lw P way) := by
  obtain ⟨a, b, c, d⟩ := hP
  rcases way_or hw with rfl | rfl
  · exact ⟨by show 2 ≤ P.1 - 1; have : 2 < P.1 := hb; omega, by show P.1 - 1 ≤ 8; omega, c, d⟩
  · exact ⟨a, b, by show 2 ≤ P.2.1 - 1; have : 2 < P.2.1 := hb; omega, by show P.2.1 - 1 ≤ 8; omega⟩
theorem ok_add {lw : Nat} {P : Pc} {way : Nat} (hw : way < 2) (hP : okPc P) (hb : nbP P way < 8) : okPc (addP lw P way) := by
  obtain ⟨a, b, c, d⟩ := hP
  rcases way_or hw with rfl | rfl
  · exact ⟨by show 2 ≤ P.1 + 1; omega, by show P.1 + 1 ≤ 8; have : P.1 < 8 := hb; omega, c, d⟩
  · exact ⟨a, b, by show 2 ≤ P.2.1 + 1; omega, by show P.2.1 + 1 ≤ 8; have : P.2.1 < 8 := hb; omega⟩
/-- the picture at k is P, by the rule lw -/
def isP (G : Gs) (b : Nat) (w : Wd) (k lw : Nat) (P : Pc) : Prop := ∃ ga ma, isPic G b w k P.1 P.2.1 lw ga ma ∧ agr P ga ma
theorem isP.ok {G : Gs} {b : Nat} {w : Wd} {k lw : Nat} {P : Pc} (h : isP G b w k lw P) : okPc P := by
  obtain ⟨ga, ma, ⟨_, _, _, a, b, c, d, _⟩, _⟩ := h
  exact ⟨a, b, c, d⟩
theorem isP.lw {G : Gs} {b : Nat} {w : Wd} {k lw : Nat} {P : Pc} (h : isP G b w k lw P) : lw < 2 := by
  obtain ⟨ga, ma, ⟨_, _, _, _, _, _, _, e⟩, _⟩ := h
  exact e
theorem isPic.fr {G : Gs} {b : Nat} {w w2 : Wd} {k wd hg lw : Nat} {ga ma : Nat → Int32} (h : isPic G b w k wd hg lw ga ma) (hf : ∀ j, k ≤ j → j < k + 3 → w2 j = w j) : isPic G b w2 k wd hg lw ga ma := by
  obtain ⟨a0, a1, a2, a3⟩ := h
  exact ⟨(hf k (by omega) (by omega)).trans a0, (hf (k + 1) (by omega) (by omega)).trans a1, (hf (k + 2) (by omega) (by omega)).trans a2, a3⟩
theorem isP.fr {G : Gs} {b : Nat} {w w2 : Wd} {k lw : Nat} {P : Pc} (h : isP G b w k lw P) (hf : ∀ j, k ≤ j → j < k + 3 → w2 j = w j) : isP G b w2 k lw P := by
  obtain ⟨ga, ma, h1, h2⟩ := h
  exact ⟨ga, ma, h1.fr hf, h2⟩
theorem isSm.fr {G : Gs} {b : Nat} {w w2 : Wd} {k way : Nat} {tot : Int32} {pl ce go : Nat → Int32} (h : isSm G b w k way tot pl ce go) (hf : ∀ j, k ≤ j → j < k + 4 → w2 j = w j) : isSm G b w2 k way tot pl ce go := by
  obtain ⟨a0, a1, a2, a3⟩ := h
  exact ⟨(hf k (by omega) (by omega)).trans a0, (hf (k + 1) (by omega) (by omega)).trans a1, (hf (k + 2) (by omega) (by omega)).trans a2, (hf (k + 3) (by omega) (by omega)).trans a3⟩
theorem p_findLeast (l : Launch) (G : Gs) (b N : Nat) (w : Wd) (ks : Nat) (hks : ks + 4 ≤ N) (way0 : Nat) (tot : Int32) (pl ce go : Nat → Int32) (hs : isSm G b w ks way0 tot pl ce go) (k : Nat) (hk : k + 3 ≤ N) (hdj : ks + 4 ≤ k ∨ k + 3 ≤ ks) (lw : Nat) (P : Pc) (hp : isP G b w k lw P) (way : Nat) (hw : way < 2) :
    CV l yX4_findLeast cX4_findLeast 7 4 G b N w [.ref (b + ks), .ref (b + k), .int (nI way)] (fun w2 => ∃ pl2 ce2 go2, isSm G b w2 ks way (tA lw P way) pl2 ce2 go2 ∧ okP pl2 (sA lw P way) (nlP P way) (nbP P way) ∧ ∀ j, (j < ks ∨ ks + 4 ≤ j) → w2 j = w j) := by
  have hP := hp.ok
  obtain ⟨ga, ma, h1, h2⟩ := hp
  refine (c_X4_findLeast l G b N w ks hks way0 tot pl ce go hs k hk hdj P.1 P.2.1 lw ga ma h1 way hw).mono ?_
  rintro w2 ⟨pl2, ce2, go2, a1, a2, a3⟩
  refine ⟨pl2, ce2, go2, ?_, ?_, a3⟩
  · rw [← agr_t hP h2 hw]; exact a1
  · intro l hl
    rw [← agr_s hP h2 hw]; exact a2 l hl
theorem p_takeOut (l : Launch) (G : Gs) (b N : Nat) (w : Wd) (k : Nat) (hk : k + 3 ≤ N) (lw : Nat) (P : Pc) (hp : isP G b w k lw P) (ks way : Nat) (hks : ks + 4 ≤ N) (hdj : ks + 4 ≤ k ∨ k + 3 ≤ ks) (hw : way < 2) (tot : Int32) (pl ce go : Nat → Int32) (hs : isSm G b w ks way tot pl ce go) (hpl : okP pl (sA lw P way) (nlP P way) (nbP P way)) (hb : 2 < nbP P way) :
    CV l yX3_takeOut cX3_takeOut 5 2 G b N w [.ref (b + k), .ref (b + ks)] (fun w2 => isP G b w2 k lw (cutP lw P way) ∧ ∀ j, (j < k ∨ k + 3 ≤ j) → w2 j = w j) := by
  obtain ⟨ga, ma, h1, h2⟩ := hp
  refine (c_X3_takeOut l G b N w k hk P.1 P.2.1 lw ga ma h1 ks way hks hdj hw tot pl ce go hs (sA lw P way) hpl hb).mono ?_
  rintro w2 ⟨ga2, ma2, a1, a2, a3⟩
  refine ⟨⟨ga2, ma2, a1, agr_of (way := way) hw (fun l p hl hq => ?_)⟩, a3⟩
  rw [nl_cut hw] at hl
  rw [nb_cut hw] at hq
  have hh := a2 l p hl hq
  have h3 := agr_v h2 hw (l := l) (p := if p < sA lw P way l then p else p + 1) hl (by split <;> omega)
  rw [hh.1, hh.2]
  exact ⟨(h3.1.trans (vw_cut hw).symm), (h3.2.trans (vw_cut hw).symm)⟩
theorem p_putIn (l : Launch) (G : Gs) (b N : Nat) (w : Wd) (k : Nat) (hk : k + 3 ≤ N) (lw : Nat) (P : Pc) (hp : isP G b w k lw P) (ks way : Nat) (hks : ks + 4 ≤ N) (hdj : ks + 4 ≤ k ∨ k + 3 ≤ ks) (hw : way < 2) (tot : Int32) (pl ce go : Nat → Int32) (hs : isSm G b w ks way tot pl ce go) (hpl : okP pl (sA lw P way) (nlP P way) (nbP P way)) (hb : nbP P way < 8) :
    CV l yX3_putIn cX3_putIn 8 2 G b N w [.ref (b + k), .ref (b + ks)] (fun w2 => isP G b w2 k lw (addP lw P way) ∧ ∀ j, (j < k ∨ k + 3 ≤ j) → w2 j = w j) := by
  have hP := hp.ok
  obtain ⟨ga, ma, h1, h2⟩ := hp
  refine (c_X3_putIn l G b N w k hk P.1 P.2.1 lw ga ma h1 ks way hks hdj hw tot pl ce go hs (sA lw P way) hpl hb).mono ?_
  rintro w2 ⟨ga2, ma2, a1, a2, a3⟩
  refine ⟨⟨ga2, ma2, a1, agr_of (way := way) hw (fun l p hl hq => ?_)⟩, a3⟩
  rw [nl_add hw] at hl
  rw [nb_add hw] at hq
  have hh := a2 l p hl hq
  have hsl := sA_lt (lw := lw) (way := way) hP l
  have hpos := hP.pos way
  have hv : ∀ q, q < nbP P way → vg way ga l q = vw way P.2.2.1 l q ∧ vg way ma l q = vw way P.2.2.2 l q := fun q hq => agr_v h2 hw hl hq
  rw [hh.1, hh.2]
  refine ⟨Eq.trans ?_ (vw_add hw).symm, Eq.trans ?_ (vw_add hw).symm⟩
  · show adS (sA lw P way) (midS (sA lw P way) (nbP P way) (vg way ga)) (vg way ga) l p = adS (sA lw P way) (midS (sA lw P way) (nbP P way) (vw way P.2.2.1)) (vw way P.2.2.1) l p
    rw [adS, adS, midS, midS, (hv _ hsl).1, (hv (min (sA lw P way l + 1) (nbP P way - 1)) (by omega)).1]
    by_cases c1 : p ≤ sA lw P way l
    · rw [if_pos c1, if_pos c1, (hv p (by omega)).1]
    · rw [if_neg c1, if_neg c1]
      by_cases c2 : p = sA lw P way l + 1
      · rw [if_pos c2, if_pos c2]
      · rw [if_neg c2, if_neg c2, (hv (p - 1) (by omega)).1]
  · show adS (sA lw P way) (fun _ => 0) (vg way ma) l p = adS (sA lw P way) (fun _ => 0) (vw way P.2.2.2) l p
    rw [adS, adS]
    by_cases c1 : p ≤ sA lw P way l
    · rw [if_pos c1, if_pos c1, (hv p (by omega)).2]
    · rw [if_neg c1, if_neg c1]
      by_cases c2 : p = sA lw P way l + 1
      · rw [if_pos c2, if_pos c2]
      · rw [if_neg c2, if_neg c2, (hv (p - 1) (by omega)).2]
theorem p_kept (l : Launch) (G : Gs) (b N : Nat) (w : Wd) (k : Nat) (hk : k + 3 ≤ N) (lw : Nat) (P : Pc) (hp : isP G b w k lw P) (ks way : Nat) (hks : ks + 4 ≤ N) (hdj : ks + 4 ≤ k ∨ k + 3 ≤ ks) (hw : way < 2) (tot : Int32) (pl ce go : Nat → Int32) (hs : isSm G b w ks way tot pl ce go) (hpl : okP pl (sA lw P way) (nlP P way) (nbP P way)) :
    CI l yX3_keptDotsOf cX3_keptDotsOf 4 (some .int) 2 G b N w [.ref (b + k), .ref (b + ks)] (fun r w2 => r = kA lw P way ∧ w2 = w) := by
  have hP := hp.ok
  obtain ⟨ga, ma, h1, h2⟩ := hp
  refine (c_X3_keptDotsOf l G b N w k hk P.1 P.2.1 lw ga ma h1 ks way hks hdj hw tot pl ce go hs (sA lw P way) hpl).mono ?_
  rintro r w2 ⟨a1, a2⟩
  refine ⟨a1.trans (sm_congr (fun j hj => ?_)), a2⟩
  show (if vg way ma j (sA lw P way j) = 1 then (1 : Int32) else 0) = if vw way P.2.2.2 j (sA lw P way j) = 1 then 1 else 0
  rw [(agr_v h2 hw hj (sA_lt hP j)).2]
theorem p_copyFrom (l : Launch) (G : Gs) (b N : Nat) (w : Wd) (k : Nat) (hk : k + 3 ≤ N) (lw : Nat) (P : Pc) (hp : isP G b w k lw P) (k2 : Nat) (hk2 : k2 + 3 ≤ N) (hdj : k2 + 3 ≤ k ∨ k + 3 ≤ k2) (lw2 : Nat) (P2 : Pc) (hp2 : isP G b w k2 lw2 P2) :
    CV l yX3_copyFrom cX3_copyFrom 3 0 G b N w [.ref (b + k), .ref (b + k2)] (fun w2 => isP G b w2 k lw2 P2 ∧ ∀ j, (j < k ∨ k + 3 ≤ j) → w2 j = w j) := by
  obtain ⟨ga, ma, h1, h2⟩ := hp
  obtain ⟨gb, mb, h3, h4⟩ := hp2
  have hP : okPc P2 := by obtain ⟨_, _, _, a, b, c, d, _⟩ := h3; exact ⟨a, b, c, d⟩
  refine (c_X3_copyFrom l G b N w k hk P.1 P.2.1 lw ga ma h1 k2 hk2 hdj P2.1 P2.2.1 lw2 gb mb h3).mono ?_
  rintro w2 ⟨ga2, ma2, a1, a2, a3⟩
  refine ⟨⟨ga2, ma2, a1, fun x y hx hy => ?_⟩, a3⟩
  have hj : ix 0 y x < 64 := ix_lt (by have := hP.2.2.2; omega) (by have := hP.2.1; omega)
  rw [(a2 _ hj).1, (a2 _ hj).2]
  exact h4 x y hx hy
