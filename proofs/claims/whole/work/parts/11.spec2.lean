/-! sums, cuts, additions -/
def sm (f : Nat → Int32) : Nat → Int32
  | 0 => 0
  | n + 1 => sm f n + f n
theorem am_t {f : Nat → Int32} {n v : Nat} (e : v = am f 0 n) (h : (f (n + 1)).toInt < (f v).toInt) : n + 1 = am f 0 (n + 1) := by
  subst e
  rw [am, Nat.zero_add, if_pos (Int32.lt_iff_toInt_lt.mpr h)]
theorem am_f {f : Nat → Int32} {n v : Nat} (e : v = am f 0 n) (h : (f v).toInt ≤ (f (n + 1)).toInt) : v = am f 0 (n + 1) := by
  subst e
  rw [am, Nat.zero_add, if_neg (fun q => by have := Int32.lt_iff_toInt_lt.mp q; omega)]
/-- a seam of the class: its own cell and its places -/
def isSm (G : Gs) (b : Nat) (w : Wd) (k way : Nat) (tot : Int32) (pl ce go : Nat → Int32) : Prop :=
  w k = .inr (4, [.int (nI way), .int tot, .ref (b + (k + 1)), .ref (b + (k + 2)), .ref (b + (k + 3))]) ∧ w (k + 1) = aI G 8 pl ∧ w (k + 2) = aI G 64 ce ∧ w (k + 3) = aI G 64 go
/-- places that lie in the picture -/
def okP (pl : Nat → Int32) (s : Nat → Nat) (n nb : Nat) : Prop := ∀ l, l < n → pl l = nI (s l) ∧ s l < nb
def shS (s : Nat → Nat) (h : Nat → Nat → Int32) (l p : Nat) : Int32 := h l (if p < s l then p else p + 1)
def CutI (way : Nat) (ga : Nat → Int32) (s : Nat → Nat) (nl nb line place : Nat) (A : Nat → Int32) : Prop :=
  ∀ l p, l < nl → p < nb → vg way A l p = if (l < line ∨ (l = line ∧ p < place)) ∧ p < nb - 1 then shS s (vg way ga) l p else vg way ga l p
theorem CutI_0 {way nl nb : Nat} {ga : Nat → Int32} {s : Nat → Nat} : CutI way ga s nl nb 0 0 ga := fun l p _ _ => by rw [if_neg (by omega)]
theorem CutI_in {way nl nb line : Nat} {ga A : Nat → Int32} {s : Nat → Nat} (h : CutI way ga s nl nb line 0 A) : CutI way ga s nl nb line (s line) A := fun l p hl hp => by
  rw [h l p hl hp]
  by_cases c : l < line ∧ p < nb - 1
  · rw [if_pos (by omega), if_pos (by omega)]
  · rw [if_neg (by omega)]
    by_cases c2 : (l < line ∨ (l = line ∧ p < s line)) ∧ p < nb - 1
    · rw [if_pos c2, shS]
      have : l = line := by omega
      subst this
      rw [if_pos (by omega)]
    · rw [if_neg c2]
theorem CutI_out {way nl nb line place : Nat} {ga A : Nat → Int32} {s : Nat → Nat} (hp : nb - 1 ≤ place) (h : CutI way ga s nl nb line place A) : CutI way ga s nl nb (line + 1) 0 A := fun l p hl hq => by
  rw [h l p hl hq]
  by_cases c : (l < line ∨ (l = line ∧ p < place)) ∧ p < nb - 1
  · rw [if_pos c, if_pos (by omega)]
  · rw [if_neg c, if_neg (by omega)]
theorem CutI_st {way nl nb line place : Nat} {ga A : Nat → Int32} {s : Nat → Nat} (hnl : nl ≤ 8) (hnb : nb ≤ 8) (hl : line < nl) (hp : place < nb - 1) (hs : s line ≤ place) (h : CutI way ga s nl nb line place A) : CutI way ga s nl nb line (place + 1) (upd A (ix way line place) (A (ix way line (place + 1)))) := fun l p hl2 hp2 => by
  by_cases e : l = line ∧ p = place
  · obtain ⟨rfl, rfl⟩ := e
    rw [vg, upd_self, if_pos (by omega)]
    have := h l (p + 1) hl2 (by omega)
    rw [if_neg (by omega)] at this
    rw [shS, if_neg (by omega)]
    exact this
  · rw [vg, upd_ne (ix_ne (by omega) (by omega) (by omega) (by omega) (by omega))]
    have := h l p hl2 hp2
    rw [vg] at this
    rw [this]
    by_cases c : (l < line ∨ (l = line ∧ p < place)) ∧ p < nb - 1
    · rw [if_pos c, if_pos (by omega)]
    · rw [if_neg c, if_neg (by omega)]
theorem CutI_end {way nl nb line : Nat} {ga A : Nat → Int32} {s : Nat → Nat} (hl : nl ≤ line) (h : CutI way ga s nl nb line 0 A) : ∀ l p, l < nl → p < nb - 1 → vg way A l p = shS s (vg way ga) l p := fun l p h1 h2 => by
  rw [h l p h1 (by omega), if_pos (by omega)]
/-- a seam is added: what a line becomes -/
def adS (s : Nat → Nat) (mid : Nat → Int32) (h : Nat → Nat → Int32) (l p : Nat) : Int32 := if p ≤ s l then h l p else if p = s l + 1 then mid l else h l (p - 1)
def midS (s : Nat → Nat) (nb : Nat) (h : Nat → Nat → Int32) (l : Nat) : Int32 := (h l (s l) + h l (min (s l + 1) (nb - 1))) / 2
def AddI (way : Nat) (ga : Nat → Int32) (s : Nat → Nat) (mid : Nat → Int32) (nl nb line place : Nat) (A : Nat → Int32) : Prop :=
  ∀ l, l < nl → ((l < line → ∀ p, p ≤ nb → vg way A l p = adS s mid (vg way ga) l p) ∧ (l = line → ∀ p, p ≤ nb → (place < p → vg way A l p = vg way ga l (p - 1)) ∧ (p ≤ place → p < nb → vg way A l p = vg way ga l p)) ∧ (line < l → ∀ p, p < nb → vg way A l p = vg way ga l p))
theorem AddI_0 {way nl nb : Nat} {ga : Nat → Int32} {s : Nat → Nat} {mid : Nat → Int32} : AddI way ga s mid nl nb 0 nb ga := fun l _ => ⟨fun h => absurd h (by omega), fun _ p hp => ⟨fun h => absurd h (by omega), fun _ _ => rfl⟩, fun _ p _ => rfl⟩
theorem AddI_st {way nl nb line place : Nat} {ga A : Nat → Int32} {s : Nat → Nat} {mid : Nat → Int32} (hnl : nl ≤ 8) (hnb : nb < 8) (hl : line < nl) (hp : place ≤ nb) (h0 : 0 < place) (h : AddI way ga s mid nl nb line place A) : AddI way ga s mid nl nb line (place - 1) (upd A (ix way line place) (A (ix way line (place - 1)))) := by
  intro l hl2
  refine ⟨fun h1 p hp2 => ?_, fun h1 p hp2 => ⟨fun h2 => ?_, fun h2 h3 => ?_⟩, fun h1 p hp2 => ?_⟩
  · rw [vg, upd_ne (ix_ne (by omega) (by omega) (by omega) (by omega) (by omega))]
    exact (h l hl2).1 h1 p hp2
  · subst h1
    by_cases e : p = place
    · subst e
      rw [vg, upd_self]
      exact ((h l hl2).2.1 rfl (p - 1) (by omega)).2 (by omega) (by omega)
    · rw [vg, upd_ne (ix_ne (by omega) (by omega) (by omega) (by omega) (by omega))]
      exact ((h l hl2).2.1 rfl p hp2).1 (by omega)
  · subst h1
    rw [vg, upd_ne (ix_ne (by omega) (by omega) (by omega) (by omega) (by omega))]
    exact ((h l hl2).2.1 rfl p hp2).2 (by omega) h3
  · rw [vg, upd_ne (ix_ne (by omega) (by omega) (by omega) (by omega) (by omega))]
    exact (h l hl2).2.2 h1 p hp2
theorem AddI_out {way nl nb line place : Nat} {ga A : Nat → Int32} {s : Nat → Nat} {mid : Nat → Int32} {x : Int32} (hnl : nl ≤ 8) (hnb : nb < 8) (hl : line < nl) (hs : s line < nb) (hp : place = s line + 1) (hx : x = mid line) (h : AddI way ga s mid nl nb line place A) : AddI way ga s mid nl nb (line + 1) nb (upd A (ix way line (s line + 1)) x) := by
  intro l hl2
  refine ⟨fun h1 p hp2 => ?_, fun h1 p hp2 => ⟨fun h2 => absurd h2 (by omega), fun h2 h3 => ?_⟩, fun h1 p hp2 => ?_⟩
  · by_cases e : l = line
    · subst e
      rw [adS]
      by_cases c1 : p ≤ s l
      · rw [if_pos c1, vg, upd_ne (ix_ne (by omega) (by omega) (by omega) (by omega) (by omega))]
        exact ((h l hl2).2.1 rfl p hp2).2 (by omega) (by omega)
      · rw [if_neg c1]
        by_cases c2 : p = s l + 1
        · subst c2
          rw [if_pos rfl, vg, upd_self, hx]
        · rw [if_neg c2, vg, upd_ne (ix_ne (by omega) (by omega) (by omega) (by omega) (by omega))]
          exact ((h l hl2).2.1 rfl p hp2).1 (by omega)
    · rw [vg, upd_ne (ix_ne (by omega) (by omega) (by omega) (by omega) (by omega))]
      exact (h l hl2).1 (by omega) p hp2
  · rw [vg, upd_ne (ix_ne (by omega) (by omega) (by omega) (by omega) (by omega))]
    exact (h l hl2).2.2 (by omega) p h3
  · rw [vg, upd_ne (ix_ne (by omega) (by omega) (by omega) (by omega) (by omega))]
    exact (h l hl2).2.2 (by omega) p hp2
theorem AddI_end {way nl nb line place : Nat} {ga A : Nat → Int32} {s : Nat → Nat} {mid : Nat → Int32} (hl : nl ≤ line) (h : AddI way ga s mid nl nb line place A) : ∀ l p, l < nl → p < nb + 1 → vg way A l p = adS s mid (vg way ga) l p := fun l p h1 h2 => (h l h1).1 (by omega) p (by omega)
theorem AddI_old {way nl nb line place : Nat} {ga A : Nat → Int32} {s : Nat → Nat} {mid : Nat → Int32} {p : Nat} (hl : line < nl) (hp : p < nb) (hq : p ≤ place) (h : AddI way ga s mid nl nb line place A) : vg way A line p = vg way ga line p := ((h line hl).2.1 rfl p (by omega)).2 hq hp
