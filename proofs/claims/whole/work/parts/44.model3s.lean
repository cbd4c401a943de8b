/-! the reference's working rows hold the picture P, seen the way 'way' -/
def agG (P : Pc) (way : Nat) (gr mk : Nat → Int32) : Prop := ∀ l p, l < nlP P way → p < nbP P way → mv gr l p = vw way P.2.2.1 l p ∧ mv mk l p = vw way P.2.2.2 l p
theorem agG_turn {P : Pc} {gr mk gr2 mk2 : Nat → Int32} (hP : okPc P) (h : agG P 0 gr mk) (hT : ∀ r c, r < 8 → c < 8 → gr2 (8 * r + c) = gr (8 * c + r) ∧ mk2 (8 * r + c) = mk (8 * c + r)) : agG P 1 gr2 mk2 := by
  obtain ⟨a, b, c, d⟩ := hP
  intro l p hl hp
  have hl : l < P.1 := hl
  have hp : p < P.2.1 := hp
  have h1 := hT l p (by omega) (by omega)
  have h2 := h p l hp hl
  exact ⟨h1.1.trans h2.1, h1.2.trans h2.2⟩
theorem agG_back {P : Pc} {gr mk gr2 mk2 : Nat → Int32} (h1 : P.1 ≤ 8) (h2 : P.2.1 ≤ 8) (h : agG P 1 gr mk) (hT : ∀ r c, r < 8 → c < 8 → gr2 (8 * r + c) = gr (8 * c + r) ∧ mk2 (8 * r + c) = mk (8 * c + r)) : agG P 0 gr2 mk2 := by
  intro l p hl hp
  have hl : l < P.2.1 := hl
  have hp : p < P.1 := hp
  have h3 := hT l p (by omega) (by omega)
  have h4 := h p l hp hl
  exact ⟨h3.1.trans h4.1, h3.2.trans h4.2⟩
theorem agG_c {P : Pc} {gr mk : Nat → Int32} {lw way : Nat} (h : agG P way gr mk) : ∀ l p f, l < nlP P way → p < nbP P way → f < nbP P way → coS lw (nbP P way) (nlP P way) (mv gr) (mv mk) l p f = cA lw P way l p f := coS_congr (fun l p hl hp => h l p hl hp)
theorem agG_s0 {P : Pc} {gr mk : Nat → Int32} {lw : Nat} (hP : okPc P) (h : agG P 0 gr mk) (l : Nat) : sS (coS lw P.1 P.2.1 (mv gr) (mv mk)) P.1 P.2.1 l = sA lw P 0 l := sS_congr (show 0 < P.1 by have := hP.1; omega) (show 0 < P.2.1 by have := hP.2.2.1; omega) (agG_c (way := 0) h) l
theorem agG_s1 {P : Pc} {gr mk : Nat → Int32} {lw : Nat} (hP : okPc P) (h : agG P 1 gr mk) (l : Nat) : sS (coS lw P.2.1 P.1 (mv gr) (mv mk)) P.2.1 P.1 l = sA lw P 1 l := sS_congr (show 0 < P.2.1 by have := hP.2.2.1; omega) (show 0 < P.1 by have := hP.1; omega) (agG_c (way := 1) h) l
theorem agG_t0 {P : Pc} {gr mk : Nat → Int32} {lw : Nat} (hP : okPc P) (h : agG P 0 gr mk) : toS (coS lw P.1 P.2.1 (mv gr) (mv mk)) P.1 P.2.1 = tA lw P 0 := toS_congr (by have := hP.1; omega) (by have := hP.2.2.1; omega) (agG_c (way := 0) h)
theorem agG_t1 {P : Pc} {gr mk : Nat → Int32} {lw : Nat} (hP : okPc P) (h : agG P 1 gr mk) : toS (coS lw P.2.1 P.1 (mv gr) (mv mk)) P.2.1 P.1 = tA lw P 1 := toS_congr (by have := hP.2.2.1; omega) (by have := hP.1; omega) (agG_c (way := 1) h)
theorem agG_k {P : Pc} {gr mk : Nat → Int32} {lw way : Nat} (hP : okPc P) (h : agG P way gr mk) : sm (fun l => if mv mk l (sA lw P way l) = 1 then 1 else 0) (nlP P way) = kA lw P way := sm_congr (fun j hj => by
  show (if mv mk j (sA lw P way j) = 1 then (1 : Int32) else 0) = if vw way P.2.2.2 j (sA lw P way j) = 1 then 1 else 0
  rw [(h j _ hj (sA_lt hP j)).2])
theorem agG_cut {P : Pc} {gr mk gr2 mk2 : Nat → Int32} {lw way : Nat} (hw : way < 2) (hP : okPc P) (h : agG P way gr mk) (hc : ∀ l p, l < nlP P way → p < nbP P way - 1 → mv gr2 l p = shS (sA lw P way) (mv gr) l p ∧ mv mk2 l p = shS (sA lw P way) (mv mk) l p) : agG (cutP lw P way) way gr2 mk2 := by
  intro l p hl hp
  rw [nl_cut hw] at hl
  rw [nb_cut hw] at hp
  have h1 := hc l p hl hp
  have h2 := h l (if p < sA lw P way l then p else p + 1) hl (by split <;> omega)
  rw [h1.1, h1.2]
  exact ⟨h2.1.trans (vw_cut hw).symm, h2.2.trans (vw_cut hw).symm⟩
theorem agG_add {P : Pc} {gr mk gr2 mk2 : Nat → Int32} {lw way : Nat} (hw : way < 2) (hP : okPc P) (h : agG P way gr mk) (hc : ∀ l p, l < nlP P way → p < nbP P way + 1 → mv gr2 l p = adS (sA lw P way) (midS (sA lw P way) (nbP P way) (mv gr)) (mv gr) l p ∧ mv mk2 l p = adS (sA lw P way) (fun _ => 0) (mv mk) l p) : agG (addP lw P way) way gr2 mk2 := by
  intro l p hl hp
  rw [nl_add hw] at hl
  rw [nb_add hw] at hp
  have hh := hc l p hl hp
  have hsl := sA_lt (lw := lw) (way := way) hP l
  have hpos := hP.pos way
  have hv : ∀ q, q < nbP P way → mv gr l q = vw way P.2.2.1 l q ∧ mv mk l q = vw way P.2.2.2 l q := fun q hq => h l q hl hq
  rw [hh.1, hh.2]
  refine ⟨Eq.trans ?_ (vw_add hw).symm, Eq.trans ?_ (vw_add hw).symm⟩
  · rw [adS, adS, midS, midS, (hv _ hsl).1, (hv (min (sA lw P way l + 1) (nbP P way - 1)) (by omega)).1]
    by_cases c1 : p ≤ sA lw P way l
    · rw [if_pos c1, if_pos c1, (hv p (by omega)).1]
    · rw [if_neg c1, if_neg c1]
      by_cases c2 : p = sA lw P way l + 1
      · rw [if_pos c2, if_pos c2]
      · rw [if_neg c2, if_neg c2, (hv (p - 1) (by omega)).1]
  · rw [adS, adS]
    by_cases c1 : p ≤ sA lw P way l
    · rw [if_pos c1, if_pos c1, (hv p (by omega)).2]
    · rw [if_neg c1, if_neg c1]
      by_cases c2 : p = sA lw P way l + 1
      · rw [if_pos c2, if_pos c2]
      · rw [if_neg c2, if_neg c2, (hv (p - 1) (by omega)).2]
/-- the state's row holds the rule and the picture; what lies outside of it is 0 -/
def stI (st : Nat → Int32) (lw : Nat) (P : Pc) : Prop := (∀ x y, x < 8 → y < 8 → st (8 * y + x) = (if x < P.1 ∧ y < P.2.1 then P.2.2.1 x y else 0) ∧ st (64 + (8 * y + x)) = (if x < P.1 ∧ y < P.2.1 then P.2.2.2 x y else 0)) ∧ st 128 = nI P.1 ∧ st 129 = nI P.2.1 ∧ st 130 = nI lw ∧ okPc P ∧ lw < 2
theorem stI_ag {st gr mk : Nat → Int32} {lw : Nat} {P : Pc} (h : stI st lw P) (hg : ∀ i, i < 64 → gr i = st i ∧ mk i = st (64 + i)) : agG P 0 gr mk := by
  obtain ⟨h1, _, _, _, ⟨a, b, c, d⟩, _⟩ := h
  intro l p hl hp
  have hl : l < P.2.1 := hl
  have hp : p < P.1 := hp
  have h2 := h1 p l (by omega) (by omega)
  rw [if_pos ⟨hp, hl⟩, if_pos ⟨hp, hl⟩] at h2
  have h3 := hg (8 * l + p) (by omega)
  exact ⟨h3.1.trans h2.1, h3.2.trans h2.2⟩
theorem stI_of {st gr mk : Nat → Int32} {lw : Nat} {P : Pc} (hP : okPc P) (hlw : lw < 2) (h : agG P 0 gr mk) (h1 : ∀ j, j < 64 → st j = (if j % 8 < P.1 ∧ j / 8 < P.2.1 then gr j else 0) ∧ st (64 + j) = (if j % 8 < P.1 ∧ j / 8 < P.2.1 then mk j else 0)) (h2 : st 128 = nI P.1) (h3 : st 129 = nI P.2.1) (h4 : st 130 = nI lw) : stI st lw P := by
  refine ⟨fun x y hx hy => ?_, h2, h3, h4, hP, hlw⟩
  have h5 := h1 (8 * y + x) (by omega)
  rw [show (8 * y + x) % 8 = x by omega, show (8 * y + x) / 8 = y by omega] at h5
  by_cases c : x < P.1 ∧ y < P.2.1
  · rw [if_pos c, if_pos c] at h5 ⊢
    exact ⟨h5.1.trans (h y x c.2 c.1).1, h5.2.trans (h y x c.2 c.1).2⟩
  · rw [if_neg c, if_neg c] at h5 ⊢
    exact h5
