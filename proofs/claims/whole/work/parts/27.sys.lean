/-! the whole state, and what each call answers and does -/
def tn (x : Int32) : Nat := x.toInt.toNat
theorem tn_nI {n : Nat} (h : n < 2 ^ 31) : tn (nI n) = n := by rw [tn, nI_toInt h]; rfl
abbrev Sg : Type := Nat × Pc × Nat × (Nat → Int32) × (Nat → Nat × Pc) × (Nat → Int32)
abbrev dotC (P : Pc) (x y : Int32) : Prop := 0 ≤ x.toInt ∧ x.toInt < P.1 ∧ 0 ≤ y.toInt ∧ y.toInt < P.2.1
abbrev bitC (x : Int32) : Prop := x.toInt = 0 ∨ x.toInt = 1
abbrev reC (P : Pc) (a e : Int32) : Prop := 0 ≤ a.toInt ∧ a.toInt ≤ (P.1 : Int) - 2 ∧ 0 ≤ e.toInt ∧ e.toInt ≤ (P.2.1 : Int) - 2 ∧ a.toInt + e.toInt ≤ 6
def setG (g : Nat → Nat → Int32) (x y : Nat) (v : Int32) : Nat → Nat → Int32 := fun a c => if a = x ∧ c = y then v else g a c
section SPEC
variable (lw : Nat) (P : Pc) (n : Nat) (sg : Nat → Int32) (im : Nat → Nat × Pc) (kf : Nat → Int32)
def fSize (x y : Int32) : Int32 × Sg := if 2 ≤ x.toInt ∧ x.toInt ≤ 8 ∧ 2 ≤ y.toInt ∧ y.toInt ≤ 8 then (nI (10 * P.1 + P.2.1), (lw, (tn x, tn y, fun _ _ => 0, fun _ _ => 0), n, sg, im, kf)) else (-2, (lw, P, n, sg, im, kf))
def fGrey (x y v : Int32) : Int32 × Sg := if dotC P x y then (if 0 ≤ v.toInt ∧ v.toInt ≤ 9 then (P.2.2.1 (tn x) (tn y), (lw, (P.1, P.2.1, setG P.2.2.1 (tn x) (tn y) v, P.2.2.2), n, sg, im, kf)) else (-2, (lw, P, n, sg, im, kf))) else (-1, (lw, P, n, sg, im, kf))
def fMark (x y v : Int32) : Int32 × Sg := if dotC P x y then (if 0 ≤ v.toInt ∧ v.toInt ≤ 2 then (P.2.2.2 (tn x) (tn y), (lw, (P.1, P.2.1, P.2.2.1, setG P.2.2.2 (tn x) (tn y) v), n, sg, im, kf)) else (-2, (lw, P, n, sg, im, kf))) else (-1, (lw, P, n, sg, im, kf))
def fRule (v : Int32) : Int32 × Sg := if bitC v then (nI lw, (tn v, P, n, sg, im, kf)) else (-2, (lw, P, n, sg, im, kf))
def edS (x y : Nat) : Int32 := gapS P.1 (vw 0 P.2.2.1) y x + vgapS P.2.1 (vw 0 P.2.2.1) y x
def wgS (x y : Nat) : Int32 := wtS P.1 P.2.1 (vw 0 P.2.2.1) (vw 0 P.2.2.2) y x
def aDot (x y what : Int32) : Int32 := if dotC P x y then (if what.toInt = 0 then P.2.2.1 (tn x) (tn y) else if what.toInt = 1 then P.2.2.2 (tn x) (tn y) else if what.toInt = 2 then edS P (tn x) (tn y) else if what.toInt = 3 then wgS P (tn x) (tn y) + 1000 else -2) else -1
def fSay (x : Int32) : Int32 × Sg := if 33 ≤ x.toInt ∧ x.toInt ≤ 126 then (if n < 80 then (nI (n + 1), (lw, P, n + 1, upd sg n x, im, kf)) else (-4, (lw, P, n, sg, im, kf))) else (-2, (lw, P, n, sg, im, kf))
def fWipe : Int32 × Sg := (nI n, (lw, P, 0, sg, im, kf))
def aFault (how : Int32) : Int32 := if bitC how then ffS (tn how) P.1 P.2.1 n sg else -2
def layC (how : Nat) : Int32 := sm (fun y => sm (fun x => if (if how = 0 then P.2.2.1 x y else P.2.2.2 x y) = vS how (sg (y * (P.1 + 1) + x)) then 0 else 1) P.1) P.2.1
def layP (how : Nat) : Pc := if how = 0 then (P.1, P.2.1, fun x y => vS 0 (sg (y * (P.1 + 1) + x)), P.2.2.2) else (P.1, P.2.1, P.2.2.1, fun x y => vS 1 (sg (y * (P.1 + 1) + x)))
def fLay (how : Int32) : Int32 × Sg := if bitC how then (if ffS (tn how) P.1 P.2.1 n sg = -6 then (layC P sg (tn how), (lw, layP P sg (tn how), 0, sg, im, kf)) else (-7, (lw, P, n, sg, im, kf))) else (-2, (lw, P, n, sg, im, kf))
def aSeam (way i : Int32) : Int32 := if bitC way ∧ -1 ≤ i.toInt then (if i.toInt < nlP P (tn way) then (if i.toInt < 0 then tA lw P (tn way) + 10000 else nI (sA lw P (tn way) (tn i))) else -6) else -2
def costN (way m : Nat) : Int32 := sm (fun l => cA lw P way l (dg m (nlP P way) l) (dg m (nlP P way) (l - 1))) (nlP P way)
def aCost (way num : Int32) : Int32 := if bitC way ∧ 0 ≤ num.toInt then (if okN (tn num) (nlP P (tn way)) (nbP P (tn way)) then costN lw P (tn way) (tn num) + 10000 else -5) else -2
def fCut (way : Int32) : Int32 × Sg := if bitC way then (if 2 < nbP P (tn way) then (tA lw P (tn way) + 10000, (lw, cutP lw P (tn way), n, sg, im, kf)) else (-3, (lw, P, n, sg, im, kf))) else (-2, (lw, P, n, sg, im, kf))
def fAdd (way : Int32) : Int32 × Sg := if bitC way then (if nbP P (tn way) < 8 then (tA lw P (tn way) + 10000, (lw, addP lw P (tn way), n, sg, im, kf)) else (-3, (lw, P, n, sg, im, kf))) else (-2, (lw, P, n, sg, im, kf))
def leS (way i : Nat) : Nat := am (fun p => wtS (nbP P way) (nlP P way) (vw way P.2.2.1) (vw way P.2.2.2) i p) 0 (nbP P way - 1)
def aLeast (way i : Int32) : Int32 := if bitC way then (if 0 ≤ i.toInt ∧ i.toInt < nlP P (tn way) then nI (leS P (tn way) (tn i)) else -1) else -2
def bsA (a e : Nat) : Acc := trS lw (a + e) a e [] 0 0 P (0, [], 0, 0)
def aBest (a e what : Int32) : Int32 := if reC P a e ∧ 0 ≤ what.toInt ∧ what.toInt ≤ 3 then (if what.toInt = 0 then (bsA lw P (tn a) (tn e)).1 + 10000 else if what.toInt = 1 then nI (bsA lw P (tn a) (tn e)).2.2.2 else if what.toInt = 2 then nI (enc (bsA lw P (tn a) (tn e)).2.1) else (bsA lw P (tn a) (tn e)).2.2.1) else -2
def aTable (a e what : Int32) : Int32 := if reC P a e ∧ (what.toInt = 0 ∨ (10 ≤ what.toInt ∧ what.toInt ≤ 89)) then (if what.toInt = 0 then (tb lw P (tn a) (tn e)).1 + 10000 else if tn what / 10 - 1 < P.1 - tn a ∧ tn what % 10 < P.2.1 - tn e then (tb lw P (tn a) (tn e)).2.2.2.1 (tn what / 10 - 1) (tn what % 10) else -6) else -2
def runP : Pc → List Nat → Pc
  | P, [] => P
  | P, x :: t => runP (cutP lw P x) t
def fGo (a e : Int32) : Int32 × Sg := if reC P a e then ((bsA lw P (tn a) (tn e)).1 + 10000, (lw, runP lw P (bsA lw P (tn a) (tn e)).2.1, n, sg, im, kf)) else (-2, (lw, P, n, sg, im, kf))
def fImage (k : Int32) : Int32 × Sg := if 0 ≤ k.toInt ∧ k.toInt < 2 then (1, (lw, P, n, sg, fun i => if i = tn k then (lw, P) else im i, upd kf (tn k) 1)) else (-2, (lw, P, n, sg, im, kf))
def fRestore (k : Int32) : Int32 × Sg := if 0 ≤ k.toInt ∧ k.toInt < 2 then (if kf (tn k) = 0 then (-3, (lw, P, n, sg, im, kf)) else (1, ((im (tn k)).1, (im (tn k)).2, n, sg, im, kf))) else (-2, (lw, P, n, sg, im, kf))
def sumG : Int32 := sm (fun y => sm (fun x => P.2.2.1 x y) P.1) P.2.1
def cntM (m : Int32) : Int32 := sm (fun y => sm (fun x => if P.2.2.2 x y = m then 1 else 0) P.1) P.2.1
def kpS : Int32 := (if kf 0 = 0 then 0 else 1) + (if kf 1 = 0 then 0 else 2)
def aCount (what : Int32) : Int32 := if what.toInt = 0 then nI P.1 else if what.toInt = 1 then nI P.2.1 else if what.toInt = 2 then sumG P else if what.toInt = 3 then cntM P 1 else if what.toInt = 4 then cntM P 2 else if what.toInt = 5 then nI lw else if what.toInt = 6 then nI n else if what.toInt = 7 then kpS kf else -2
end SPEC
/-- the class's own cell -/
abbrev spF (b : Nat) : va_E := .inr (5, [.ref (b + 1), .ref (b + 4), .ref (b + 8), .ref (b + 10), .ref (b + 37), .ref (b + 69), .ref (b + 76)])
/-- the world of the class holds the state -/
def sysC (G : Gs) (b : Nat) (w : Wd) (S : Sg) : Prop :=
  w 0 = spF b ∧ isP G b w 1 S.1 S.2.1 ∧ anySm G b w 4 ∧ isPad G b w 8 S.2.2.1 S.2.2.2.1 ∧ (∃ ac, w 10 = osF b 10 ac) ∧ osW G b w 10 ∧ ctW G b w 37 ∧ w 69 = aP G 2 (fun i => some (b + (3 * i + 70))) ∧ (∀ i, i < 2 → isP G b w (3 * i + 70) (S.2.2.2.2.1 i).1 (S.2.2.2.2.1 i).2) ∧ w 76 = aZ G 2 S.2.2.2.2.2 ∧ (∀ i, i < 2 → S.2.2.2.2.2 i = 0 ∨ S.2.2.2.2.2 i = 1)
section SYSC
variable {G : Gs} {b : Nat} {w w2 : Wd} {lw n : Nat} {P : Pc} {sg kf : Nat → Int32} {im : Nat → Nat × Pc}
theorem isPad.fr {k : Nat} (h : isPad G b w k n sg) (hf : ∀ j, k ≤ j → j < k + 2 → w2 j = w j) : isPad G b w2 k n sg := ⟨(hf k (by omega) (by omega)).trans h.1, (hf (k + 1) (by omega) (by omega)).trans h.2.1, h.2.2⟩
theorem osW.fr {k : Nat} (h : osW G b w k) (hf : ∀ j, k + 1 ≤ j → j < k + 27 → w2 j = w j) : osW G b w2 k := by
  obtain ⟨h1, h2, h3⟩ := h
  refine ⟨(hf (k + 1) (by omega) (by omega)).trans h1, all_fr h2 (fun j a1 a2 => hf j (by omega) (by omega)), ?_⟩
  obtain ⟨a1, a2, a3, a4, a5, h⟩ := h3
  exact ⟨a1, a2, a3, a4, a5, h.fr (fun j a1 a2 => hf j (by omega) (by omega))⟩
theorem ctW.fr {k : Nat} (h : ctW G b w k) (hf : ∀ j, k ≤ j → j < k + 32 → w2 j = w j) : ctW G b w2 k := by
  obtain ⟨h1, h2, h3, ⟨cs, h4⟩, h5, h6⟩ := h
  exact ⟨(hf k (by omega) (by omega)).trans h1, (hf (k + 1) (by omega) (by omega)).trans h2, all_fr h3 (fun j a1 a2 => hf j (by omega) (by omega)), ⟨cs, (hf (k + 23) (by omega) (by omega)).trans h4⟩, h5.fr (fun j a1 a2 => hf j (by omega) (by omega)), h6.fr (fun j a1 a2 => hf j (by omega) (by omega))⟩
theorem sysC_P {lw2 : Nat} {P2 : Pc} (h : sysC G b w (lw, P, n, sg, im, kf)) (hp : isP G b w2 1 lw2 P2) (hf : ∀ j, (j < 1 ∨ 4 ≤ j) → w2 j = w j) : sysC G b w2 (lw2, P2, n, sg, im, kf) := by
  obtain ⟨a0, a1, a2, a3, ⟨ac, a4⟩, a5, a6, a7, a8, a9, a10⟩ := h
  exact ⟨(hf 0 (by omega)).trans a0, hp, a2.fr (fun j _ _ => hf j (by omega)), a3.fr (fun j _ _ => hf j (by omega)), ⟨ac, (hf 10 (by omega)).trans a4⟩, a5.fr (fun j _ _ => hf j (by omega)), a6.fr (fun j _ _ => hf j (by omega)), (hf 69 (by omega)).trans a7, fun i hi => (a8 i hi).fr (fun j _ _ => hf j (by omega)), (hf 76 (by omega)).trans a9, a10⟩
theorem sysC_S (h : sysC G b w (lw, P, n, sg, im, kf)) (hp : anySm G b w2 4) (hf : ∀ j, (j < 4 ∨ 8 ≤ j) → w2 j = w j) : sysC G b w2 (lw, P, n, sg, im, kf) := by
  obtain ⟨a0, a1, a2, a3, ⟨ac, a4⟩, a5, a6, a7, a8, a9, a10⟩ := h
  exact ⟨(hf 0 (by omega)).trans a0, a1.fr (fun j _ _ => hf j (by omega)), hp, a3.fr (fun j _ _ => hf j (by omega)), ⟨ac, (hf 10 (by omega)).trans a4⟩, a5.fr (fun j _ _ => hf j (by omega)), a6.fr (fun j _ _ => hf j (by omega)), (hf 69 (by omega)).trans a7, fun i hi => (a8 i hi).fr (fun j _ _ => hf j (by omega)), (hf 76 (by omega)).trans a9, a10⟩
theorem sysC_D {n2 : Nat} {sg2 : Nat → Int32} (h : sysC G b w (lw, P, n, sg, im, kf)) (hp : isPad G b w2 8 n2 sg2) (hf : ∀ j, (j < 8 ∨ 10 ≤ j) → w2 j = w j) : sysC G b w2 (lw, P, n2, sg2, im, kf) := by
  obtain ⟨a0, a1, a2, a3, ⟨ac, a4⟩, a5, a6, a7, a8, a9, a10⟩ := h
  exact ⟨(hf 0 (by omega)).trans a0, a1.fr (fun j _ _ => hf j (by omega)), a2.fr (fun j _ _ => hf j (by omega)), hp, ⟨ac, (hf 10 (by omega)).trans a4⟩, a5.fr (fun j _ _ => hf j (by omega)), a6.fr (fun j _ _ => hf j (by omega)), (hf 69 (by omega)).trans a7, fun i hi => (a8 i hi).fr (fun j _ _ => hf j (by omega)), (hf 76 (by omega)).trans a9, a10⟩
theorem sysC_O {ac2 : Acc} (h : sysC G b w (lw, P, n, sg, im, kf)) (h1 : w2 10 = osF b 10 ac2) (h2 : osW G b w2 10) (hf : ∀ j, (j < 10 ∨ 37 ≤ j) → w2 j = w j) : sysC G b w2 (lw, P, n, sg, im, kf) := by
  obtain ⟨a0, a1, a2, a3, _, a5, a6, a7, a8, a9, a10⟩ := h
  exact ⟨(hf 0 (by omega)).trans a0, a1.fr (fun j _ _ => hf j (by omega)), a2.fr (fun j _ _ => hf j (by omega)), a3.fr (fun j _ _ => hf j (by omega)), ⟨ac2, h1⟩, h2, a6.fr (fun j _ _ => hf j (by omega)), (hf 69 (by omega)).trans a7, fun i hi => (a8 i hi).fr (fun j _ _ => hf j (by omega)), (hf 76 (by omega)).trans a9, a10⟩
theorem sysC_T (h : sysC G b w (lw, P, n, sg, im, kf)) (h1 : ctW G b w2 37) (hf : ∀ j, (j < 37 ∨ 69 ≤ j) → w2 j = w j) : sysC G b w2 (lw, P, n, sg, im, kf) := by
  obtain ⟨a0, a1, a2, a3, ⟨ac, a4⟩, a5, a6, a7, a8, a9, a10⟩ := h
  exact ⟨(hf 0 (by omega)).trans a0, a1.fr (fun j _ _ => hf j (by omega)), a2.fr (fun j _ _ => hf j (by omega)), a3.fr (fun j _ _ => hf j (by omega)), ⟨ac, (hf 10 (by omega)).trans a4⟩, a5.fr (fun j _ _ => hf j (by omega)), h1, (hf 69 (by omega)).trans a7, fun i hi => (a8 i hi).fr (fun j _ _ => hf j (by omega)), (hf 76 (by omega)).trans a9, a10⟩
theorem sysC_I {i0 lw2 : Nat} {P2 : Pc} (h : sysC G b w (lw, P, n, sg, im, kf)) (hi0 : i0 < 2) (hp : isP G b w2 (3 * i0 + 70) lw2 P2) (hf : ∀ j, (j < 3 * i0 + 70 ∨ 3 * i0 + 73 ≤ j) → w2 j = w j) : sysC G b w2 (lw, P, n, sg, fun i => if i = i0 then (lw2, P2) else im i, kf) := by
  obtain ⟨a0, a1, a2, a3, ⟨ac, a4⟩, a5, a6, a7, a8, a9, a10⟩ := h
  refine ⟨(hf 0 (by omega)).trans a0, a1.fr (fun j _ _ => hf j (by omega)), a2.fr (fun j _ _ => hf j (by omega)), a3.fr (fun j _ _ => hf j (by omega)), ⟨ac, (hf 10 (by omega)).trans a4⟩, a5.fr (fun j _ _ => hf j (by omega)), a6.fr (fun j _ _ => hf j (by omega)), (hf 69 (by omega)).trans a7, fun i hi => ?_, (hf 76 (by omega)).trans a9, a10⟩
  show isP G b w2 (3 * i + 70) (if i = i0 then (lw2, P2) else im i).1 (if i = i0 then (lw2, P2) else im i).2
  by_cases e : i = i0
  · subst e
    rw [if_pos rfl]
    exact hp
  · rw [if_neg e]
    exact (a8 i hi).fr (fun j _ _ => hf j (by omega))
theorem sysC_K {i0 : Nat} (h : sysC G b w (lw, P, n, sg, im, kf)) (hk : w2 76 = aZ G 2 (upd kf i0 1)) (hf : ∀ j, j ≠ 76 → w2 j = w j) : sysC G b w2 (lw, P, n, sg, im, upd kf i0 1) := by
  obtain ⟨a0, a1, a2, a3, ⟨ac, a4⟩, a5, a6, a7, a8, a9, a10⟩ := h
  refine ⟨(hf 0 (by omega)).trans a0, a1.fr (fun j _ _ => hf j (by omega)), a2.fr (fun j _ _ => hf j (by omega)), a3.fr (fun j _ _ => hf j (by omega)), ⟨ac, (hf 10 (by omega)).trans a4⟩, a5.fr (fun j _ _ => hf j (by omega)), a6.fr (fun j _ _ => hf j (by omega)), (hf 69 (by omega)).trans a7, fun i hi => (a8 i hi).fr (fun j _ _ => hf j (by omega)), hk, fun i hi => ?_⟩
  show upd kf i0 1 i = 0 ∨ upd kf i0 1 i = 1
  by_cases e : i = i0
  · subst e; exact Or.inr upd_self
  · rw [upd_ne e]; exact a10 i hi
end SYSC
/-! pictures again: single dots, blanks, marks -/
theorem agr_set {P : Pc} {ga ma : Nat → Int32} {x y : Nat} {v : Int32} (hP : okPc P) (h : agr P ga ma) (hx : x < P.1) (hy : y < P.2.1) : agr (P.1, P.2.1, setG P.2.2.1 x y v, P.2.2.2) (upd ga (ix 0 y x) v) ma := by
  intro a c ha hc
  have ha : a < P.1 := ha
  have hc : c < P.2.1 := hc
  obtain ⟨_, h8, _, h9⟩ := hP
  refine ⟨?_, (h a c ha hc).2⟩
  show upd ga (ix 0 y x) v (ix 0 c a) = setG P.2.2.1 x y v a c
  rw [setG]
  by_cases e : a = x ∧ c = y
  · obtain ⟨rfl, rfl⟩ := e
    rw [if_pos ⟨rfl, rfl⟩, upd_self]
  · rw [if_neg e, upd_ne (ix_ne (by omega) (by omega) (by omega) (by omega) (by omega))]
    exact (h a c ha hc).1
theorem agr_setM {P : Pc} {ga ma : Nat → Int32} {x y : Nat} {v : Int32} (hP : okPc P) (h : agr P ga ma) (hx : x < P.1) (hy : y < P.2.1) : agr (P.1, P.2.1, P.2.2.1, setG P.2.2.2 x y v) ga (upd ma (ix 0 y x) v) := by
  intro a c ha hc
  have ha : a < P.1 := ha
  have hc : c < P.2.1 := hc
  obtain ⟨_, h8, _, h9⟩ := hP
  refine ⟨(h a c ha hc).1, ?_⟩
  show upd ma (ix 0 y x) v (ix 0 c a) = setG P.2.2.2 x y v a c
  rw [setG]
  by_cases e : a = x ∧ c = y
  · obtain ⟨rfl, rfl⟩ := e
    rw [if_pos ⟨rfl, rfl⟩, upd_self]
  · rw [if_neg e, upd_ne (ix_ne (by omega) (by omega) (by omega) (by omega) (by omega))]
    exact (h a c ha hc).2
