/-- the world of the reference holds the state -/
def sysM (G : Gs) (b : Nat) (w : Wd) (S : Sg) : Prop := ∃ (wd hg : Nat) (sc kc bc bo ag bk : Int32) (st ims gr mk rs se tt tc : Nat → Int32), mW G b w S.2.2.1 wd hg sc kc bc bo ag bk st ims S.2.2.2.2.2 S.2.2.2.1 gr mk rs se tt tc ∧ stI st S.1 S.2.1 ∧ (∀ k, k < 2 → S.2.2.2.2.2 k ≠ 0 → stI (fun i => ims (131 * k + i)) (S.2.2.2.2.1 k).1 (S.2.2.2.2.1 k).2) ∧ S.2.2.1 ≤ 80
theorem stI_set {st : Nat → Int32} {lw x y : Nat} {P : Pc} {v : Int32} (h : stI st lw P) (hx : x < P.1) (hy : y < P.2.1) : stI (upd st (8 * y + x) v) lw (P.1, P.2.1, setG P.2.2.1 x y v, P.2.2.2) := by
  obtain ⟨h1, h2, h3, h4, ⟨a, b, c, d⟩, h6⟩ := h
  refine ⟨fun x2 y2 hx2 hy2 => ?_, by rw [upd_ne (by omega)]; exact h2, by rw [upd_ne (by omega)]; exact h3, by rw [upd_ne (by omega)]; exact h4, ⟨a, b, c, d⟩, h6⟩
  have h7 := h1 x2 y2 hx2 hy2
  refine ⟨?_, by rw [upd_ne (by omega)]; exact h7.2⟩
  show _ = if x2 < P.1 ∧ y2 < P.2.1 then setG P.2.2.1 x y v x2 y2 else 0
  rw [setG]
  by_cases e : x2 = x ∧ y2 = y
  · obtain ⟨rfl, rfl⟩ := e
    rw [upd_self, if_pos ⟨hx, hy⟩, if_pos ⟨rfl, rfl⟩]
  · rw [upd_ne (by omega), if_neg e]
    exact h7.1
theorem stI_setM {st : Nat → Int32} {lw x y : Nat} {P : Pc} {v : Int32} (h : stI st lw P) (hx : x < P.1) (hy : y < P.2.1) : stI (upd st (64 + (8 * y + x)) v) lw (P.1, P.2.1, P.2.2.1, setG P.2.2.2 x y v) := by
  obtain ⟨h1, h2, h3, h4, ⟨a, b, c, d⟩, h6⟩ := h
  refine ⟨fun x2 y2 hx2 hy2 => ?_, by rw [upd_ne (by omega)]; exact h2, by rw [upd_ne (by omega)]; exact h3, by rw [upd_ne (by omega)]; exact h4, ⟨a, b, c, d⟩, h6⟩
  have h7 := h1 x2 y2 hx2 hy2
  refine ⟨by rw [upd_ne (by omega)]; exact h7.1, ?_⟩
  show _ = if x2 < P.1 ∧ y2 < P.2.1 then setG P.2.2.2 x y v x2 y2 else 0
  rw [setG]
  by_cases e : x2 = x ∧ y2 = y
  · obtain ⟨rfl, rfl⟩ := e
    rw [upd_self, if_pos ⟨hx, hy⟩, if_pos ⟨rfl, rfl⟩]
  · rw [upd_ne (by omega), if_neg e]
    exact h7.2
theorem stI_at {st : Nat → Int32} {lw x y : Nat} {P : Pc} (h : stI st lw P) (hx : x < P.1) (hy : y < P.2.1) : st (8 * y + x) = P.2.2.1 x y ∧ st (64 + (8 * y + x)) = P.2.2.2 x y := by
  obtain ⟨h1, h2, h3, h4, ⟨a, b, c, d⟩, h6⟩ := h
  have h7 := h1 x y (by omega) (by omega)
  rw [if_pos ⟨hx, hy⟩, if_pos ⟨hx, hy⟩] at h7
  exact h7
theorem stI_blank {A : Nat → Int32} {lw nx ny : Nat} (h : ∀ j, j < 128 → A j = 0) (h4 : A 130 = nI lw) (h6 : lw < 2) (a : 2 ≤ nx) (b : nx ≤ 8) (c : 2 ≤ ny) (d : ny ≤ 8) : stI (upd (upd A 128 (nI nx)) 129 (nI ny)) lw (nx, ny, fun _ _ => 0, fun _ _ => 0) := by
  refine ⟨fun x y hx hy => ?_, by rw [upd_ne (by omega), upd_self], upd_self, by rw [upd_ne (by omega), upd_ne (by omega)]; exact h4, ⟨a, b, c, d⟩, h6⟩
  rw [upd_ne (by omega), upd_ne (by omega), upd_ne (by omega), upd_ne (by omega), h _ (by omega), h _ (by omega)]
  exact ⟨(ite_self _).symm, (ite_self _).symm⟩
theorem stI_law {st : Nat → Int32} {lw v : Nat} {P : Pc} (h : stI st lw P) (hv : v < 2) : stI (upd st 130 (nI v)) v P := by
  obtain ⟨h1, h2, h3, h4, h5, h6⟩ := h
  exact ⟨fun x y hx hy => by rw [upd_ne (by omega), upd_ne (by omega)]; exact h1 x y hx hy, by rw [upd_ne (by omega)]; exact h2, by rw [upd_ne (by omega)]; exact h3, upd_self, h5, hv⟩
theorem wt_agG {P : Pc} {gr mk : Nat → Int32} (h : agG P 0 gr mk) {x y : Nat} (hx : x < P.1) (hy : y < P.2.1) : gapS P.1 (mv gr) y x + vgapS P.2.1 (mv gr) y x = edS P x y ∧ wtS P.1 P.2.1 (mv gr) (mv mk) y x = wgS P x y := by
  have v : ∀ l p, l < P.2.1 → p < P.1 → mv gr l p = vw 0 P.2.2.1 l p ∧ mv mk l p = vw 0 P.2.2.2 l p := fun l p hl hp => h l p hl hp
  have a1 := (v y (x - 1) hy (by omega)).1
  have a2 := (v y (min (x + 1) (P.1 - 1)) hy (by omega)).1
  have a3 := (v (y - 1) x (by omega) hx).1
  have a4 := (v (min (y + 1) (P.2.1 - 1)) x (by omega) hx).1
  have a5 := (v y x hy hx).2
  constructor
  · rw [edS, gapS, gapS, vgapS, vgapS, a1, a2, a3, a4]
  · rw [wgS, wtS, wtS, gapS, gapS, vgapS, vgapS, exS, exS, a1, a2, a3, a4, a5]
theorem wt_agW {P : Pc} {gr mk : Nat → Int32} {way : Nat} (hP : okPc P) (h : agG P way gr mk) {l p : Nat} (hl : l < nlP P way) (hp : p < nbP P way) : wtS (nbP P way) (nlP P way) (mv gr) (mv mk) l p = wtS (nbP P way) (nlP P way) (vw way P.2.2.1) (vw way P.2.2.2) l p := by
  have a1 := (h l (p - 1) hl (by omega)).1
  have a2 := (h l (min (p + 1) (nbP P way - 1)) hl (by omega)).1
  have a3 := (h (l - 1) p (by omega) hp).1
  have a4 := (h (min (l + 1) (nlP P way - 1)) p (by omega) hp).1
  have a5 := (h l p hl hp).2
  rw [wtS, wtS, gapS, gapS, vgapS, vgapS, exS, exS, a1, a2, a3, a4, a5]
theorem du_eq {wd hg : Nat} : wd * hg + hg - 1 = duS wd hg := by rw [duS, Nat.mul_add, Nat.mul_one, Nat.mul_comm]
theorem stI_cp {A B : Nat → Int32} {lw k : Nat} {P : Pc} (h : stI B lw P) (hA : ∀ j, j < 131 → A (k + j) = B j) : stI (fun i => A (k + i)) lw P := by
  obtain ⟨h1, h2, h3, h4, h5, h6⟩ := h
  exact ⟨fun x y hx hy => ⟨(hA _ (by omega)).trans (h1 x y hx hy).1, (hA _ (by omega)).trans (h1 x y hx hy).2⟩, (hA _ (by omega)).trans h2, (hA _ (by omega)).trans h3, (hA _ (by omega)).trans h4, h5, h6⟩
theorem stI_cp0 {A B : Nat → Int32} {lw : Nat} {P : Pc} (h : stI B lw P) (hA : ∀ j, j < 131 → A j = B j) : stI A lw P := by
  obtain ⟨h1, h2, h3, h4, h5, h6⟩ := h
  exact ⟨fun x y hx hy => ⟨(hA _ (by omega)).trans (h1 x y hx hy).1, (hA _ (by omega)).trans (h1 x y hx hy).2⟩, (hA _ (by omega)).trans h2, (hA _ (by omega)).trans h3, (hA _ (by omega)).trans h4, h5, h6⟩
theorem cp_st {A B : Nat → Int32} {i j k : Nat} (h : ∀ j, j < i → A (k + j) = B j) (hj : j < i + 1) : upd A (k + i) (B i) (k + j) = B j := by
  by_cases e : j = i
  · subst e; exact upd_self
  · rw [upd_ne (by omega)]; exact h j (by omega)
theorem sm_row (f : Nat → Int32) (g : Nat → Nat → Int32) : ∀ (hg : Nat), (∀ y x, y < hg → x < 8 → f (8 * y + x) = g y x) → sm f (8 * hg) = sm (fun y => sm (g y) 8) hg
  | 0, _ => rfl
  | n + 1, h => by
    have e : ∀ k, k ≤ 8 → sm f (8 * n + k) = sm f (8 * n) + sm (g n) k := by
      intro k hk
      induction k with
      | zero => exact (Int32.add_zero _).symm
      | succ k ih => rw [← Nat.add_assoc, sm, ih (by omega), h n k (by omega) (by omega), Int32.add_assoc, sm]
    rw [show 8 * (n + 1) = 8 * n + 8 by omega, e 8 (Nat.le_refl 8), sm_row f g n (fun y x hy hx => h y x (by omega) hx)]
    rfl
theorem sm_cut (f : Nat → Int32) {a c : Nat} (hac : a ≤ c) (h : ∀ j, a ≤ j → j < c → f j = 0) : sm f c = sm f a := by
  induction c with
  | zero => rw [Nat.le_zero.mp hac]
  | succ c ih =>
    by_cases e : a = c + 1
    · rw [e]
    · rw [sm, ih (by omega) (fun j h1 h2 => h j h1 (by omega)), h c (by omega) (by omega), Int32.add_zero]
theorem sm_zero (n : Nat) : sm (fun _ => (0 : Int32)) n = 0 := by
  induction n with
  | zero => rfl
  | succ n ih => rw [sm, ih]; rfl
/-- a sum over all 64 places is the sum over the picture, if nothing lies outside -/
theorem sm_pic {f : Nat → Int32} {g : Nat → Nat → Int32} {wd hg : Nat} (h8 : wd ≤ 8) (h9 : hg ≤ 8) (h : ∀ x y, x < 8 → y < 8 → f (8 * y + x) = if x < wd ∧ y < hg then g x y else 0) : sm f 64 = sm (fun y => sm (fun x => g x y) wd) hg := by
  have e := sm_row f (fun y x => if x < wd ∧ y < hg then g x y else 0) 8 (fun y x hy hx => h x y hx hy)
  rw [show (64 : Nat) = 8 * 8 from rfl, e, sm_cut (a := hg) _ h9 (fun y h1 h2 => ?_)]
  · refine sm_congr (fun y hy => ?_)
    rw [sm_cut (a := wd) _ h8 (fun x h1 h2 => if_neg (by omega))]
    exact sm_congr (fun x hx => if_pos ⟨hx, hy⟩)
  · exact (sm_congr (fun x hx => if_neg (by omega))).trans (sm_zero 8)
