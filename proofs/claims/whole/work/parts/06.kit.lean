/-! the judgement V: from every heap that holds the world w, and locals that hold L, the machine comes from pc with the stack st to its end -/
abbrev Gs : Type := va_G × ClassId × ClassId × ClassId
abbrev Wd : Type := Nat → va_E
def wl (b N : Nat) (w : Wd) : va_W := (List.range N).map (fun k => (b + k, w k))
abbrev Ab (b : Nat) : Nat → Prop := fun q => b ≤ q
theorem wl_get {b N k : Nat} {w : Wd} (h : k < N) : (wl b N w)[k]? = some (b + k, w k) := by simp [wl, h]
theorem wl_D {b N : Nat} {w : Wd} : va_D (Ab b) (wl b N w) := by
  refine ⟨fun i j p q hp hq e => ?_, fun k q hq => ?_⟩
  · simp only [wl, List.getElem?_map, Option.map_eq_some_iff] at hp hq
    obtain ⟨x, hx, rfl⟩ := hp
    obtain ⟨y, hy, rfl⟩ := hq
    have h1 := List.getElem?_eq_some_iff.mp hx
    have h2 := List.getElem?_eq_some_iff.mp hy
    obtain ⟨a1, b1⟩ := h1
    obtain ⟨a2, b2⟩ := h2
    simp at b1 b2 e
    omega
  · simp only [wl, List.getElem?_map, Option.map_eq_some_iff] at hq
    obtain ⟨x, hx, rfl⟩ := hq
    exact Nat.le_add_right b x
theorem wl_set {b N k : Nat} {w : Wd} {x : va_E} : (wl b N w).set k (b + k, x) = wl b N (va_up w k x) := by
  apply List.ext_getElem?
  intro i
  simp only [wl, List.getElem?_set, List.getElem?_map, List.length_map, List.length_range]
  by_cases h : k = i
  · subst h
    by_cases h2 : k < N
    · simp [h2, va_up]
    · simp [h2]
  · have h' : ¬ i = k := fun e => h e.symm
    by_cases h2 : i < N
    · simp [h, h', h2, va_up]
    · simp [h, h2]
theorem wl_push {b N : Nat} {w : Wd} {x : va_E} : wl b N w ++ [(b + N, x)] = wl b (N + 1) (va_up w N x) := by
  apply List.ext_getElem?
  intro i
  simp only [wl, List.range_succ, List.map_append, List.map_cons, List.map_nil]
  have h0 : (List.range N).map (fun k => (b + k, va_up w N x k)) = (List.range N).map (fun k => (b + k, w k)) := by
    apply List.map_congr_left
    intro a ha
    have := List.mem_range.mp ha
    rw [va_up_ne _ _ (by omega)]
  rw [h0, va_up_self]
def KK (G : Gs) (U : State) : Prop := va_K G.1 vwCl [(G.2.1, .int), (G.2.2.1, .boolean), (G.2.2.2, .object "SeamPictures$Picture")] U
def WP (G : Gs) (b N : Nat) (w : Wd) (H : Heap) : Prop := va_P G.1 vwCl (wl b N w) H
abbrev aI (G : Gs) (n : Nat) (f : Nat → Int32) : va_E := .inl (G.2.1, n, .inl f)
abbrev aZ (G : Gs) (n : Nat) (f : Nat → Int32) : va_E := .inl (G.2.2.1, n, .inl f)
abbrev aP (G : Gs) (n : Nat) (f : Nat → Option Nat) : va_E := .inl (G.2.2.2, n, .inr (.inr (.inr (.inr f))))
def LVp (ls : Array Slot) (L : List (Option Value)) : Prop := ls.size = L.length ∧ lv_wf ls ∧ ∀ (i : Nat) (v : Value), L[i]? = some (some v) → ls[i]? = some (.val v) ∧ v.category = 1
def prs (L : List (Option Value)) : List (Nat × Value) := (List.range L.length).filterMap (fun i => match L[i]? with
  | some (some v) => some (i, v)
  | _ => none)
theorem mem_prs {L : List (Option Value)} {i : Nat} {v : Value} : (i, v) ∈ prs L ↔ L[i]? = some (some v) := by
  simp only [prs, List.mem_filterMap, List.mem_range]
  constructor
  · rintro ⟨a, ha, h⟩
    split at h
    next x hx => cases h; exact hx
    next => cases h
  · intro h
    refine ⟨i, (List.getElem?_eq_some_iff.mp h).1, ?_⟩
    rw [h]
theorem LVp.has {ls : Array Slot} {L : List (Option Value)} (h : LVp ls L) : lv_has ls L.length (prs L) := ⟨h.1, h.2.1, fun q hq => (h.2.2 q.1 q.2 (mem_prs.mp hq)).1⟩
theorem LVp.set {ls : Array Slot} {L : List (Option Value)} {i : Nat} {v : Value} {ls2 : Array Slot} (h : LVp ls L) (hc : v.category = 1) (h2 : lv_has ls2 L.length ((i, v) :: (prs L).filter (fun q => !(q.1 == i) && !(q.1 + 1 == i && q.2.category == 2)))) : LVp ls2 (L.set i (some v)) := by
  refine ⟨by rw [List.length_set]; exact h2.1, h2.2.1, fun j u hj => ?_⟩
  rw [List.getElem?_set] at hj
  by_cases e : i = j
  · subst e
    by_cases hl : i < L.length
    · simp [hl] at hj
      subst hj
      exact ⟨h2.2.2 (i, v) List.mem_cons_self, hc⟩
    · simp [hl] at hj
  · rw [if_neg e] at hj
    have hcu := (h.2.2 j u hj).2
    refine ⟨h2.2.2 (j, u) (List.mem_cons_of_mem _ (List.mem_filter.mpr ⟨mem_prs.mpr hj, ?_⟩)), hcu⟩
    have e' : (j == i) = false := by simp; exact fun q => e q.symm
    simp [e', hcu]
/-- the fixed things of a walk -/
abbrev Kx : Type := (Program × Launch × Env × Room) × (State × MethodId × Array Value × List Frame) × (Method × Code × (State → Prop))
def V (κ : Kx) (G : Gs) (b : Nat) (ν : Nat × Nat × Nat) (w : Wd) (pc : Nat) (L : List (Option Value)) (st : List Value) : Prop :=
  ∀ (H : Heap) (locs : List Loc) (ls : Array Slot), WP G b ν.1 w H → va_S (Ab b) κ.2.1.1.heap H locs → LVp ls L →
    W κ.1.1 κ.1.2.1 κ.1.2.2.1 κ.1.2.2.2 κ.2.1.1 κ.2.1.2.1 κ.2.1.2.2.1 κ.2.1.2.2.2 κ.2.2.1 κ.2.2.2.1 H locs ν.2.1 ν.2.2 κ.2.2.2.2 (F0 κ.2.1.2.1 pc ls st)
def CX (κ : Kx) (G : Gs) (cc : ByteArray) (nL : Nat) (own : String) (cx : Cond) (h : Nat) : Prop :=
  κ.1.1.tables.exec = Jvm.exec ∧ κ.2.2.2.1.code = cc ∧ κ.2.2.2.1.maxLocals = nL ∧ κ.2.1.1.vm.findClass own = some κ.2.1.2.1.cls ∧ (∀ w ∈ cx :: wA, w.before κ.2.1.2.2.1 κ.2.1.1 = true) ∧ KK G κ.2.1.1 ∧ κ.1.2.2.2.frames = h ∧ κ.1.2.2.2.locals = 40 * h
section KIT
variable {κ : Kx} {G : Gs} {b : Nat} {cc : ByteArray} {nL : Nat} {own : String} {cx : Cond} {h : Nat} {ν : Nat × Nat × Nat} {w : Wd} {pc pc2 : Nat} {L L2 : List (Option Value)} {st : List Value}
theorem CX.word (X : CX κ G cc nL own cx h) {q : Cond} (hq : q ∈ wA) : q.before κ.2.1.2.2.1 κ.2.1.1 = true := X.2.2.2.2.1 q (List.mem_cons_of_mem _ hq)
theorem r_iconst (X : CX κ G cc nL own cx h) {n : Int} (d : Dc cc pc (.iconst n) 1 pc2) (v : Int32) (hv : Int32.ofInt n = v) (k : V κ G b ν w pc2 L (.int v :: st)) : V κ G b ν w pc L st := by
  obtain ⟨d, rfl⟩ := d
  exact fun H locs ls a1 a2 a3 => lv_iconst X.1 X.2.1 d hv (k H locs ls a1 a2 a3)
theorem r_bipush (X : CX κ G cc nL own cx h) {n : Int} (d : Dc cc pc (.bipush n) 2 pc2) (v : Int32) (hv : (Int8.ofInt n).toInt32 = v) (k : V κ G b ν w pc2 L (.int v :: st)) : V κ G b ν w pc L st := by
  obtain ⟨d, rfl⟩ := d
  exact fun H locs ls a1 a2 a3 => lv_bipush X.1 X.2.1 d hv (k H locs ls a1 a2 a3)
theorem r_sipush (X : CX κ G cc nL own cx h) {n : Int} (d : Dc cc pc (.sipush n) 3 pc2) (v : Int32) (hv : (Int16.ofInt n).toInt32 = v) (k : V κ G b ν w pc2 L (.int v :: st)) : V κ G b ν w pc L st := by
  obtain ⟨d, rfl⟩ := d
  exact fun H locs ls a1 a2 a3 => lv_sipush X.1 X.2.1 d hv (k H locs ls a1 a2 a3)
theorem r_iload_n (X : CX κ G cc nL own cx h) {j : Fin 4} {x : Int32} (d : Dc cc pc (.iload_n j) 1 pc2) (hl : L[(j : Nat)]? = some (some (.int x))) (k : V κ G b ν w pc2 L (.int x :: st)) : V κ G b ν w pc L st := by
  obtain ⟨d, rfl⟩ := d
  exact fun H locs ls a1 a2 a3 => lv_iload_n X.1 X.2.1 d rfl (a3.2.2 _ _ hl).1 (k H locs ls a1 a2 a3)
theorem r_iload (X : CX κ G cc nL own cx h) {j : Nat} {x : Int32} (d : Dc cc pc (.iload j) 2 pc2) (hl : L[j]? = some (some (.int x))) (k : V κ G b ν w pc2 L (.int x :: st)) : V κ G b ν w pc L st := by
  obtain ⟨d, rfl⟩ := d
  exact fun H locs ls a1 a2 a3 => lv_iload X.1 X.2.1 d (a3.2.2 _ _ hl).1 (k H locs ls a1 a2 a3)
theorem r_aload_n (X : CX κ G cc nL own cx h) {j : Fin 4} {x : Nat} (d : Dc cc pc (.aload_n j) 1 pc2) (hl : L[(j : Nat)]? = some (some (.ref x))) (k : V κ G b ν w pc2 L (.ref x :: st)) : V κ G b ν w pc L st := by
  obtain ⟨d, rfl⟩ := d
  exact fun H locs ls a1 a2 a3 => lv_aload_n X.1 X.2.1 d rfl (a3.2.2 _ _ hl).1 (k H locs ls a1 a2 a3)
theorem r_aload (X : CX κ G cc nL own cx h) {j : Nat} {x : Nat} (d : Dc cc pc (.aload j) 2 pc2) (hl : L[j]? = some (some (.ref x))) (k : V κ G b ν w pc2 L (.ref x :: st)) : V κ G b ν w pc L st := by
  obtain ⟨d, rfl⟩ := d
  exact fun H locs ls a1 a2 a3 => lv_aload X.1 X.2.1 d (a3.2.2 _ _ hl).1 (k H locs ls a1 a2 a3)
theorem r_istore_n (X : CX κ G cc nL own cx h) {j : Fin 4} {x : Int32} (d : Dc cc pc (.istore_n j) 1 pc2) (hj : (j : Nat) < L.length) (hl : L.set j (some (.int x)) = L2) (k : V κ G b ν w pc2 L2 st) : V κ G b ν w pc L (.int x :: st) := by
  obtain ⟨d, rfl⟩ := d
  subst hl
  exact fun H locs ls a1 a2 a3 => lv_istore_n X.1 X.2.1 d rfl a3.has hj rfl (fun ls2 h2 => k H locs ls2 a1 a2 (a3.set rfl h2))
theorem r_istore (X : CX κ G cc nL own cx h) {j : Nat} {x : Int32} (d : Dc cc pc (.istore j) 2 pc2) (hj : j < L.length) (hl : L.set j (some (.int x)) = L2) (k : V κ G b ν w pc2 L2 st) : V κ G b ν w pc L (.int x :: st) := by
  obtain ⟨d, rfl⟩ := d
  subst hl
  exact fun H locs ls a1 a2 a3 => lv_istore X.1 X.2.1 d a3.has hj rfl (fun ls2 h2 => k H locs ls2 a1 a2 (a3.set rfl h2))
theorem r_astore_n (X : CX κ G cc nL own cx h) {j : Fin 4} {x : Nat} (d : Dc cc pc (.astore_n j) 1 pc2) (hj : (j : Nat) < L.length) (hl : L.set j (some (.ref x)) = L2) (k : V κ G b ν w pc2 L2 st) : V κ G b ν w pc L (.ref x :: st) := by
  obtain ⟨d, rfl⟩ := d
  subst hl
  exact fun H locs ls a1 a2 a3 => lv_astore_n X.1 X.2.1 d rfl a3.has hj rfl (fun ls2 h2 => k H locs ls2 a1 a2 (a3.set rfl h2))
theorem r_astore (X : CX κ G cc nL own cx h) {j : Nat} {x : Nat} (d : Dc cc pc (.astore j) 2 pc2) (hj : j < L.length) (hl : L.set j (some (.ref x)) = L2) (k : V κ G b ν w pc2 L2 st) : V κ G b ν w pc L (.ref x :: st) := by
  obtain ⟨d, rfl⟩ := d
  subst hl
  exact fun H locs ls a1 a2 a3 => lv_astore X.1 X.2.1 d a3.has hj rfl (fun ls2 h2 => k H locs ls2 a1 a2 (a3.set rfl h2))
theorem LVp.at {ls : Array Slot} (a3 : LVp ls L) {i : Nat} {v : Value} (hl : L[i]? = some (some v)) : ∃ k : Nat, (prs L)[k]? = some (i, v) := List.mem_iff_getElem?.mp (mem_prs.mpr hl)
theorem r_iinc (X : CX κ G cc nL own cx h) {j : Nat} {n : Int} {x : Int32} (d : Dc cc pc (.iinc j n) 3 pc2) (hx : L[j]? = some (some (.int x))) (v : Int32) (hv : x + Int32.ofInt n = v) (hl : L.set j (some (.int v)) = L2) (k : V κ G b ν w pc2 L2 st) : V κ G b ν w pc L st := by
  obtain ⟨d, rfl⟩ := d
  subst hl
  intro H locs ls a1 a2 a3
  obtain ⟨q, hq⟩ := a3.at hx
  exact lv_iinc X.1 X.2.1 d a3.has hq hv (List.getElem?_eq_some_iff.mp hx).1 rfl (fun ls2 h2 => k H locs ls2 a1 a2 (a3.set rfl h2))
theorem r_top {x y : Int32} (e : x = y) (k : V κ G b ν w pc L (.int y :: st)) : V κ G b ν w pc L (.int x :: st) := by rw [e]; exact k
theorem r_dup (X : CX κ G cc nL own cx h) {v : Value} (d : Dc cc pc .dup 1 pc2) (hv : v.category = 1) (k : V κ G b ν w pc2 L (v :: v :: st)) : V κ G b ν w pc L (v :: st) := by
  obtain ⟨d, rfl⟩ := d
  exact fun H locs ls a1 a2 a3 => lv_dup X.1 X.2.1 d hv (k H locs ls a1 a2 a3)
theorem r_pop (X : CX κ G cc nL own cx h) {v : Value} (d : Dc cc pc .pop 1 pc2) (hv : v.category = 1) (k : V κ G b ν w pc2 L st) : V κ G b ν w pc L (v :: st) := by
  obtain ⟨d, rfl⟩ := d
  exact fun H locs ls a1 a2 a3 => lv_pop X.1 X.2.1 d hv (k H locs ls a1 a2 a3)
theorem r_dup2 (X : CX κ G cc nL own cx h) {v u : Value} (d : Dc cc pc .dup2 1 pc2) (hv : v.category = 1) (hu : u.category = 1) (k : V κ G b ν w pc2 L (v :: u :: v :: u :: st)) : V κ G b ν w pc L (v :: u :: st) := by
  obtain ⟨d, rfl⟩ := d
  exact fun H locs ls a1 a2 a3 => lv_dup2_11 X.1 X.2.1 d hv hu (k H locs ls a1 a2 a3)
theorem r_goto (X : CX κ G cc nL own cx h) {off : Int} {tgt : Nat} (d : Dc cc pc (.goto off) 3 pc2) (ht : (pc : Int) + off = (tgt : Int)) (k : V κ G b ν w tgt L st) : V κ G b ν w pc L st := by
  obtain ⟨d, rfl⟩ := d
  exact fun H locs ls a1 a2 a3 => lv_goto X.1 X.2.1 d ht (k H locs ls a1 a2 a3)
end KIT
section KIT2
variable {κ : Kx} {G : Gs} {b : Nat} {cc : ByteArray} {nL : Nat} {own : String} {cx : Cond} {h : Nat} {ν : Nat × Nat × Nat} {w : Wd} {pc pc2 : Nat} {L L2 : List (Option Value)} {st : List Value}
theorem r_iadd (X : CX κ G cc nL own cx h) {x y : Int32} (d : Dc cc pc .iadd 1 pc2) (z : Int32) (e : x + y = z) (k : V κ G b ν w pc2 L (.int z :: st)) : V κ G b ν w pc L (.int y :: .int x :: st) := by
  obtain ⟨d, rfl⟩ := d
  subst e
  exact fun H locs ls a1 a2 a3 => lv_iadd X.1 X.2.1 d (k H locs ls a1 a2 a3)
theorem r_isub (X : CX κ G cc nL own cx h) {x y : Int32} (d : Dc cc pc .isub 1 pc2) (z : Int32) (e : x - y = z) (k : V κ G b ν w pc2 L (.int z :: st)) : V κ G b ν w pc L (.int y :: .int x :: st) := by
  obtain ⟨d, rfl⟩ := d
  subst e
  exact fun H locs ls a1 a2 a3 => lv_isub X.1 X.2.1 d (k H locs ls a1 a2 a3)
theorem r_imul (X : CX κ G cc nL own cx h) {x y : Int32} (d : Dc cc pc .imul 1 pc2) (z : Int32) (e : x * y = z) (k : V κ G b ν w pc2 L (.int z :: st)) : V κ G b ν w pc L (.int y :: .int x :: st) := by
  obtain ⟨d, rfl⟩ := d
  subst e
  exact fun H locs ls a1 a2 a3 => lv_imul X.1 X.2.1 d (k H locs ls a1 a2 a3)
theorem r_iand (X : CX κ G cc nL own cx h) {x y : Int32} (d : Dc cc pc .iand 1 pc2) (z : Int32) (e : x &&& y = z) (k : V κ G b ν w pc2 L (.int z :: st)) : V κ G b ν w pc L (.int y :: .int x :: st) := by
  obtain ⟨d, rfl⟩ := d
  subst e
  exact fun H locs ls a1 a2 a3 => lv_iand X.1 X.2.1 d (k H locs ls a1 a2 a3)
theorem r_ior (X : CX κ G cc nL own cx h) {x y : Int32} (d : Dc cc pc .ior 1 pc2) (z : Int32) (e : x ||| y = z) (k : V κ G b ν w pc2 L (.int z :: st)) : V κ G b ν w pc L (.int y :: .int x :: st) := by
  obtain ⟨d, rfl⟩ := d
  subst e
  exact fun H locs ls a1 a2 a3 => lv_ior X.1 X.2.1 d (k H locs ls a1 a2 a3)
theorem r_ishl (X : CX κ G cc nL own cx h) {x y : Int32} (d : Dc cc pc .ishl 1 pc2) (z : Int32) (e : x <<< (y &&& 31) = z) (k : V κ G b ν w pc2 L (.int z :: st)) : V κ G b ν w pc L (.int y :: .int x :: st) := by
  obtain ⟨d, rfl⟩ := d
  subst e
  exact fun H locs ls a1 a2 a3 => lv_ishl X.1 X.2.1 d (k H locs ls a1 a2 a3)
theorem r_ishr (X : CX κ G cc nL own cx h) {x y : Int32} (d : Dc cc pc .ishr 1 pc2) (z : Int32) (e : x >>> (y &&& 31) = z) (k : V κ G b ν w pc2 L (.int z :: st)) : V κ G b ν w pc L (.int y :: .int x :: st) := by
  obtain ⟨d, rfl⟩ := d
  subst e
  exact fun H locs ls a1 a2 a3 => lv_ishr X.1 X.2.1 d (k H locs ls a1 a2 a3)
theorem r_idiv (X : CX κ G cc nL own cx h) {x y : Int32} (d : Dc cc pc .idiv 1 pc2) (hne : ¬ y = 0) (z : Int32) (e : x / y = z) (k : V κ G b ν w pc2 L (.int z :: st)) : V κ G b ν w pc L (.int y :: .int x :: st) := by
  obtain ⟨d, rfl⟩ := d
  subst e
  exact fun H locs ls a1 a2 a3 => lv_idiv X.1 X.2.1 d hne (k H locs ls a1 a2 a3)
theorem r_irem (X : CX κ G cc nL own cx h) {x y : Int32} (d : Dc cc pc .irem 1 pc2) (hne : ¬ y = 0) (z : Int32) (e : x - x / y * y = z) (k : V κ G b ν w pc2 L (.int z :: st)) : V κ G b ν w pc L (.int y :: .int x :: st) := by
  obtain ⟨d, rfl⟩ := d
  subst e
  exact fun H locs ls a1 a2 a3 => lv_irem X.1 X.2.1 d hne (k H locs ls a1 a2 a3)
theorem r_ineg (X : CX κ G cc nL own cx h) {x : Int32} (d : Dc cc pc .ineg 1 pc2) (z : Int32) (e : -x = z) (k : V κ G b ν w pc2 L (.int z :: st)) : V κ G b ν w pc L (.int x :: st) := by
  obtain ⟨d, rfl⟩ := d
  subst e
  exact fun H locs ls a1 a2 a3 => lv_ineg X.1 X.2.1 d (k H locs ls a1 a2 a3)
theorem r_icmp_eq (X : CX κ G cc nL own cx h) {x y : Int32} {off : Int} {tgt : Nat} (d : Dc cc pc (.if_icmp .eq off) 3 pc2) (ht : (pc : Int) + off = (tgt : Int)) {X1 Y1 : Int} (hx : x.toInt = X1) (hy : y.toInt = Y1) (k1 : X1 = Y1 → V κ G b ν w tgt L st) (k2 : X1 ≠ Y1 → V κ G b ν w pc2 L st) : V κ G b ν w pc L (.int y :: .int x :: st) := by
  obtain ⟨d, rfl⟩ := d
  subst hx; subst hy
  exact fun H locs ls a1 a2 a3 => lv_icmp_eq X.1 X.2.1 d ht (fun c => k1 (congrArg Int32.toInt c) H locs ls a1 a2 a3) (fun c => k2 (fun q => c (Int32.toInt_inj.mp q)) H locs ls a1 a2 a3)
theorem r_if_eq (X : CX κ G cc nL own cx h) {x : Int32} {off : Int} {tgt : Nat} (d : Dc cc pc (.ifCond .eq off) 3 pc2) (ht : (pc : Int) + off = (tgt : Int)) {X1 : Int} (hx : x.toInt = X1) (k1 : X1 = 0 → V κ G b ν w tgt L st) (k2 : X1 ≠ 0 → V κ G b ν w pc2 L st) : V κ G b ν w pc L (.int x :: st) := by
  obtain ⟨d, rfl⟩ := d
  subst hx
  exact fun H locs ls a1 a2 a3 => lv_if_eq X.1 X.2.1 d ht (fun c => k1 (congrArg Int32.toInt c) H locs ls a1 a2 a3) (fun c => k2 (fun q => c (Int32.toInt_inj.mp q)) H locs ls a1 a2 a3)
theorem r_icmp_ne (X : CX κ G cc nL own cx h) {x y : Int32} {off : Int} {tgt : Nat} (d : Dc cc pc (.if_icmp .ne off) 3 pc2) (ht : (pc : Int) + off = (tgt : Int)) {X1 Y1 : Int} (hx : x.toInt = X1) (hy : y.toInt = Y1) (k1 : X1 ≠ Y1 → V κ G b ν w tgt L st) (k2 : X1 = Y1 → V κ G b ν w pc2 L st) : V κ G b ν w pc L (.int y :: .int x :: st) := by
  obtain ⟨d, rfl⟩ := d
  subst hx; subst hy
  exact fun H locs ls a1 a2 a3 => lv_icmp_ne X.1 X.2.1 d ht (fun c => k1 (fun q => c (Int32.toInt_inj.mp q)) H locs ls a1 a2 a3) (fun c => k2 (congrArg Int32.toInt c) H locs ls a1 a2 a3)
theorem r_if_ne (X : CX κ G cc nL own cx h) {x : Int32} {off : Int} {tgt : Nat} (d : Dc cc pc (.ifCond .ne off) 3 pc2) (ht : (pc : Int) + off = (tgt : Int)) {X1 : Int} (hx : x.toInt = X1) (k1 : X1 ≠ 0 → V κ G b ν w tgt L st) (k2 : X1 = 0 → V κ G b ν w pc2 L st) : V κ G b ν w pc L (.int x :: st) := by
  obtain ⟨d, rfl⟩ := d
  subst hx
  exact fun H locs ls a1 a2 a3 => lv_if_ne X.1 X.2.1 d ht (fun c => k1 (fun q => c (Int32.toInt_inj.mp q)) H locs ls a1 a2 a3) (fun c => k2 (congrArg Int32.toInt c) H locs ls a1 a2 a3)
theorem r_icmp_lt (X : CX κ G cc nL own cx h) {x y : Int32} {off : Int} {tgt : Nat} (d : Dc cc pc (.if_icmp .lt off) 3 pc2) (ht : (pc : Int) + off = (tgt : Int)) {X1 Y1 : Int} (hx : x.toInt = X1) (hy : y.toInt = Y1) (k1 : X1 < Y1 → V κ G b ν w tgt L st) (k2 : Y1 ≤ X1 → V κ G b ν w pc2 L st) : V κ G b ν w pc L (.int y :: .int x :: st) := by
  obtain ⟨d, rfl⟩ := d
  subst hx; subst hy
  exact fun H locs ls a1 a2 a3 => lv_icmp_lt X.1 X.2.1 d ht (fun c => k1 (Int32.lt_iff_toInt_lt.mp c) H locs ls a1 a2 a3) (fun c => k2 (Int.not_lt.mp (fun q => c (Int32.lt_iff_toInt_lt.mpr q))) H locs ls a1 a2 a3)
theorem r_if_lt (X : CX κ G cc nL own cx h) {x : Int32} {off : Int} {tgt : Nat} (d : Dc cc pc (.ifCond .lt off) 3 pc2) (ht : (pc : Int) + off = (tgt : Int)) {X1 : Int} (hx : x.toInt = X1) (k1 : X1 < 0 → V κ G b ν w tgt L st) (k2 : 0 ≤ X1 → V κ G b ν w pc2 L st) : V κ G b ν w pc L (.int x :: st) := by
  obtain ⟨d, rfl⟩ := d
  subst hx
  exact fun H locs ls a1 a2 a3 => lv_if_lt X.1 X.2.1 d ht (fun c => k1 (Int32.lt_iff_toInt_lt.mp c) H locs ls a1 a2 a3) (fun c => k2 (Int.not_lt.mp (fun q => c (Int32.lt_iff_toInt_lt.mpr q))) H locs ls a1 a2 a3)
theorem r_icmp_ge (X : CX κ G cc nL own cx h) {x y : Int32} {off : Int} {tgt : Nat} (d : Dc cc pc (.if_icmp .ge off) 3 pc2) (ht : (pc : Int) + off = (tgt : Int)) {X1 Y1 : Int} (hx : x.toInt = X1) (hy : y.toInt = Y1) (k1 : Y1 ≤ X1 → V κ G b ν w tgt L st) (k2 : X1 < Y1 → V κ G b ν w pc2 L st) : V κ G b ν w pc L (.int y :: .int x :: st) := by
  obtain ⟨d, rfl⟩ := d
  subst hx; subst hy
  exact fun H locs ls a1 a2 a3 => lv_icmp_ge X.1 X.2.1 d ht (fun c => k1 (Int32.le_iff_toInt_le.mp c) H locs ls a1 a2 a3) (fun c => k2 (Int.not_le.mp (fun q => c (Int32.le_iff_toInt_le.mpr q))) H locs ls a1 a2 a3)
theorem r_if_ge (X : CX κ G cc nL own cx h) {x : Int32} {off : Int} {tgt : Nat} (d : Dc cc pc (.ifCond .ge off) 3 pc2) (ht : (pc : Int) + off = (tgt : Int)) {X1 : Int} (hx : x.toInt = X1) (k1 : 0 ≤ X1 → V κ G b ν w tgt L st) (k2 : X1 < 0 → V κ G b ν w pc2 L st) : V κ G b ν w pc L (.int x :: st) := by
  obtain ⟨d, rfl⟩ := d
  subst hx
  exact fun H locs ls a1 a2 a3 => lv_if_ge X.1 X.2.1 d ht (fun c => k1 (Int32.le_iff_toInt_le.mp c) H locs ls a1 a2 a3) (fun c => k2 (Int.not_le.mp (fun q => c (Int32.le_iff_toInt_le.mpr q))) H locs ls a1 a2 a3)
theorem r_icmp_gt (X : CX κ G cc nL own cx h) {x y : Int32} {off : Int} {tgt : Nat} (d : Dc cc pc (.if_icmp .gt off) 3 pc2) (ht : (pc : Int) + off = (tgt : Int)) {X1 Y1 : Int} (hx : x.toInt = X1) (hy : y.toInt = Y1) (k1 : Y1 < X1 → V κ G b ν w tgt L st) (k2 : X1 ≤ Y1 → V κ G b ν w pc2 L st) : V κ G b ν w pc L (.int y :: .int x :: st) := by
  obtain ⟨d, rfl⟩ := d
  subst hx; subst hy
  exact fun H locs ls a1 a2 a3 => lv_icmp_gt X.1 X.2.1 d ht (fun c => k1 (Int32.lt_iff_toInt_lt.mp c) H locs ls a1 a2 a3) (fun c => k2 (Int.not_lt.mp (fun q => c (Int32.lt_iff_toInt_lt.mpr q))) H locs ls a1 a2 a3)
theorem r_if_gt (X : CX κ G cc nL own cx h) {x : Int32} {off : Int} {tgt : Nat} (d : Dc cc pc (.ifCond .gt off) 3 pc2) (ht : (pc : Int) + off = (tgt : Int)) {X1 : Int} (hx : x.toInt = X1) (k1 : 0 < X1 → V κ G b ν w tgt L st) (k2 : X1 ≤ 0 → V κ G b ν w pc2 L st) : V κ G b ν w pc L (.int x :: st) := by
  obtain ⟨d, rfl⟩ := d
  subst hx
  exact fun H locs ls a1 a2 a3 => lv_if_gt X.1 X.2.1 d ht (fun c => k1 (Int32.lt_iff_toInt_lt.mp c) H locs ls a1 a2 a3) (fun c => k2 (Int.not_lt.mp (fun q => c (Int32.lt_iff_toInt_lt.mpr q))) H locs ls a1 a2 a3)
theorem r_icmp_le (X : CX κ G cc nL own cx h) {x y : Int32} {off : Int} {tgt : Nat} (d : Dc cc pc (.if_icmp .le off) 3 pc2) (ht : (pc : Int) + off = (tgt : Int)) {X1 Y1 : Int} (hx : x.toInt = X1) (hy : y.toInt = Y1) (k1 : X1 ≤ Y1 → V κ G b ν w tgt L st) (k2 : Y1 < X1 → V κ G b ν w pc2 L st) : V κ G b ν w pc L (.int y :: .int x :: st) := by
  obtain ⟨d, rfl⟩ := d
  subst hx; subst hy
  exact fun H locs ls a1 a2 a3 => lv_icmp_le X.1 X.2.1 d ht (fun c => k1 (Int32.le_iff_toInt_le.mp c) H locs ls a1 a2 a3) (fun c => k2 (Int.not_le.mp (fun q => c (Int32.le_iff_toInt_le.mpr q))) H locs ls a1 a2 a3)
theorem r_if_le (X : CX κ G cc nL own cx h) {x : Int32} {off : Int} {tgt : Nat} (d : Dc cc pc (.ifCond .le off) 3 pc2) (ht : (pc : Int) + off = (tgt : Int)) {X1 : Int} (hx : x.toInt = X1) (k1 : X1 ≤ 0 → V κ G b ν w tgt L st) (k2 : 0 < X1 → V κ G b ν w pc2 L st) : V κ G b ν w pc L (.int x :: st) := by
  obtain ⟨d, rfl⟩ := d
  subst hx
  exact fun H locs ls a1 a2 a3 => lv_if_le X.1 X.2.1 d ht (fun c => k1 (Int32.le_iff_toInt_le.mp c) H locs ls a1 a2 a3) (fun c => k2 (Int.not_le.mp (fun q => c (Int32.le_iff_toInt_le.mpr q))) H locs ls a1 a2 a3)
end KIT2
/-! a method's contract over worlds, its start and its ends -/
def CI (l : Launch) (y : MethodName) (bytes : ByteArray) (maxL : Nat) (ret : Option FieldType) (h : Nat) (G : Gs) (b N : Nat) (w : Wd) (av : List Value) (post : Int32 → Wd → Prop) : Prop :=
  Met l y (Cond.code y bytes maxL ret :: wA) ({ frames := h, cells := 0, slots := 0, locals := 40 * h }) (va_Pc av (fun U => WP G b N w U.heap ∧ KK G U)) (va_Qi post (fun w2 t => WP G b N w2 t.heap) (Ab b)) 0 0 (Ab b)
def CV (l : Launch) (y : MethodName) (bytes : ByteArray) (maxL : Nat) (h : Nat) (G : Gs) (b N : Nat) (w : Wd) (av : List Value) (post : Wd → Prop) : Prop :=
  Met l y (Cond.code y bytes maxL none :: wA) ({ frames := h, cells := 0, slots := 0, locals := 40 * h }) (va_Pc av (fun U => WP G b N w U.heap ∧ KK G U)) (va_Qv post (fun w2 t => WP G b N w2 t.heap) (Ab b)) 0 0 (Ab b)
theorem KK.moved {G : Gs} {u U : State} (hvm : u.vm.Alike U.vm) (h : KK G u) : KK G U := va_K.moved hvm h
theorem lv_args_mem : ∀ (av : List Value) (j : Nat), (∀ v ∈ av, v.category = 1) → ∀ (i : Nat) (v : Value), av[i]? = some v → (j + i, v) ∈ lv_args j av
  | [], _, _, i, v, h => by simp at h
  | a :: t, j, hc, 0, v, h => by simp at h; subst h; simp [lv_args]
  | a :: t, j, hc, i + 1, v, h => by
    have ha : a.category = 1 := hc a List.mem_cons_self
    have := lv_args_mem t (j + 1) (fun v hv => hc v (List.mem_cons_of_mem _ hv)) i v (by simpa using h)
    rw [show j + 1 + i = j + (i + 1) by omega] at this
    simp only [lv_args, ha]
    exact List.mem_cons_of_mem _ this
theorem LVp_entry {ls : Array Slot} {n : Nat} {av : List Value} {L0 : List (Option Value)} (hl : lv_has ls n (lv_args 0 av)) (hc : ∀ v ∈ av, v.category = 1) (hL : L0 = av.map some ++ List.replicate (n - av.length) none) (hn : av.length ≤ n) : LVp ls L0 := by
  subst hL
  refine ⟨by rw [hl.1]; simp; omega, hl.2.1, fun i v h => ?_⟩
  rw [List.getElem?_append] at h
  split at h
  · rename_i h1
    simp only [List.getElem?_map, Option.map_eq_some_iff, Option.some.injEq] at h
    obtain ⟨x, hx, rfl⟩ := h
    have := lv_args_mem av 0 hc i x hx
    rw [Nat.zero_add] at this
    exact ⟨hl.2.2 (i, x) this, hc x (List.mem_of_getElem? hx)⟩
  · rw [List.getElem?_replicate] at h
    split at h <;> cases h
theorem sl_len {av : List Value} (hc : ∀ v ∈ av, v.category = 1) : (lg_sl av).length = av.length := by
  induction av with
  | nil => rfl
  | cons a t ih =>
    have ha : a.category = 1 := hc a List.mem_cons_self
    have := ih (fun v hv => hc v (List.mem_cons_of_mem _ hv))
    simp only [lg_sl, List.flatMap_cons, List.length_append, List.length_cons] at this ⊢
    rw [this]
    simp [ha]
    omega
section START
variable {l : Launch} {y : MethodName} {bytes : ByteArray} {maxL h : Nat} {ret : Option FieldType} {G : Gs} {b N : Nat} {w : Wd} {av : List Value} {own : String} {L0 : List (Option Value)}
theorem CI_of {post : Int32 → Wd → Prop} (hy : plainName y.cls = true) (hown : y.cls = own) (hc : ∀ v ∈ av, v.category = 1) (hL : L0 = av.map some ++ List.replicate (maxL - av.length) none) (hn : av.length ≤ maxL)
    (hret : ret = some .int)
    (body : ∀ κ : Kx, CX κ G bytes maxL own (Cond.code y bytes maxL ret) h → (∀ (pc pc2 : Nat) (w2 : Wd) (L : List (Option Value)) (v : Int32), Dc bytes pc .ireturn 1 pc2 → post v w2 → V κ G b (N, 0, 0) w2 pc L [.int v]) → V κ G b (N, 0, 0) w 0 L0 []) :
    CI l y bytes maxL ret h G b N w av post := by
  subst hret
  refine Met.ofW (cc := bytes) (maxL := maxL) (ret := some .int) hy rfl ?_
  intro p e s m args below meth c s₁ B hml hv
  obtain ⟨rfl, hP, hK⟩ := hv
  have hts := atoms_spec (ws := Cond.code y bytes maxL (some .int) :: wA) B.pre
  have hfc : s.vm.findClass own = some m.cls := hown ▸ findClass_of_methodNamed B.named
  have hlocks := B.notSynchronized
  have hl := lv_entry av (n := maxL) (by rw [sl_len hc]; exact hn)
  rw [lg_entry_eq]
  generalize (lg_sl av ++ List.replicate (maxL - (lg_sl av).length) Slot.unset).toArray = ls at hl ⊢
  refine body ((p, l, e, _), (s, m, av.toArray, below), (meth, c, _)) ⟨B.exec, B.bytes, hml, hfc, hts, hK, rfl, rfl⟩ ?_ s.heap [] ls hP va_S.rf (LVp_entry hl hc hL hn)
  intro pc pc2 w2 L v d hp H locs ls2 hP2 hS2 hL2
  exact W.iret (v := v) B.exec B.bytes B.returns (fun t ht hW => ⟨⟨v, w2, rfl, hp, by show WP G b N w2 t.heap; rw [ht]; exact hP2⟩, hS2.F ht⟩) hS2.2.2 d.1
theorem CZ_of {post : Int32 → Wd → Prop} (hy : plainName y.cls = true) (hown : y.cls = own) (hc : ∀ v ∈ av, v.category = 1) (hL : L0 = av.map some ++ List.replicate (maxL - av.length) none) (hn : av.length ≤ maxL)
    (hret : ret = some .boolean)
    (body : ∀ κ : Kx, CX κ G bytes maxL own (Cond.code y bytes maxL ret) h → (∀ (pc pc2 : Nat) (w2 : Wd) (L : List (Option Value)) (v : Int32), Dc bytes pc .ireturn 1 pc2 → v = 0 ∨ v = 1 → post v w2 → V κ G b (N, 0, 0) w2 pc L [.int v]) → V κ G b (N, 0, 0) w 0 L0 []) :
    CI l y bytes maxL ret h G b N w av post := by
  subst hret
  refine Met.ofW (cc := bytes) (maxL := maxL) (ret := some .boolean) hy rfl ?_
  intro p e s m args below meth c s₁ B hml hv
  obtain ⟨rfl, hP, hK⟩ := hv
  have hts := atoms_spec (ws := Cond.code y bytes maxL (some .boolean) :: wA) B.pre
  have hfc : s.vm.findClass own = some m.cls := hown ▸ findClass_of_methodNamed B.named
  have hlocks := B.notSynchronized
  have hl := lv_entry av (n := maxL) (by rw [sl_len hc]; exact hn)
  rw [lg_entry_eq]
  generalize (lg_sl av ++ List.replicate (maxL - (lg_sl av).length) Slot.unset).toArray = ls at hl ⊢
  refine body ((p, l, e, _), (s, m, av.toArray, below), (meth, c, _)) ⟨B.exec, B.bytes, hml, hfc, hts, hK, rfl, rfl⟩ ?_ s.heap [] ls hP va_S.rf (LVp_entry hl hc hL hn)
  intro pc pc2 w2 L v d hv hp H locs ls2 hP2 hS2 hL2
  exact W.zret (v := v) (ty := .boolean) B.exec B.bytes B.returns (by rcases hv with rfl | rfl <;> rfl) (fun t ht hW => ⟨⟨v, w2, rfl, hp, by show WP G b N w2 t.heap; rw [ht]; exact hP2⟩, hS2.F ht⟩) hS2.2.2 d.1
theorem CV_of {post : Wd → Prop} (hy : plainName y.cls = true) (hown : y.cls = own) (hc : ∀ v ∈ av, v.category = 1) (hL : L0 = av.map some ++ List.replicate (maxL - av.length) none) (hn : av.length ≤ maxL)
    (body : ∀ κ : Kx, CX κ G bytes maxL own (Cond.code y bytes maxL none) h → (∀ (pc pc2 : Nat) (w2 : Wd) (L : List (Option Value)), Dc bytes pc .return_ 1 pc2 → post w2 → V κ G b (N, 0, 0) w2 pc L []) → V κ G b (N, 0, 0) w 0 L0 []) :
    CV l y bytes maxL h G b N w av post := by
  refine Met.ofW (cc := bytes) (maxL := maxL) (ret := none) hy rfl ?_
  intro p e s m args below meth c s₁ B hml hv
  obtain ⟨rfl, hP, hK⟩ := hv
  have hts := atoms_spec (ws := Cond.code y bytes maxL none :: wA) B.pre
  have hfc : s.vm.findClass own = some m.cls := hown ▸ findClass_of_methodNamed B.named
  have hlocks := B.notSynchronized
  have hl := lv_entry av (n := maxL) (by rw [sl_len hc]; exact hn)
  rw [lg_entry_eq]
  generalize (lg_sl av ++ List.replicate (maxL - (lg_sl av).length) Slot.unset).toArray = ls at hl ⊢
  refine body ((p, l, e, _), (s, m, av.toArray, below), (meth, c, _)) ⟨B.exec, B.bytes, hml, hfc, hts, hK, rfl, rfl⟩ ?_ s.heap [] ls hP va_S.rf (LVp_entry hl hc hL hn)
  intro pc pc2 w2 L d hp H locs ls2 hP2 hS2 hL2
  exact W.vret B.exec B.bytes B.returns (fun t ht hW => ⟨⟨w2, rfl, hp, by show WP G b N w2 t.heap; rw [ht]; exact hP2⟩, hS2.F ht⟩) hS2.2.2 d.1
end START
section HEAP
variable {κ : Kx} {G : Gs} {b : Nat} {cc : ByteArray} {nL : Nat} {own : String} {cx : Cond} {h : Nat} {ν : Nat × Nat × Nat} {w : Wd} {pc pc2 : Nat} {L L2 : List (Option Value)} {st : List Value}
theorem CX.ts (X : CX κ G cc nL own cx h) : ∀ q ∈ wA, q.before κ.2.1.2.2.1 κ.2.1.1 = true := fun _ hq => X.word hq
theorem r_get (X : CX κ G cc nL own cx h) {C : String} {T : u_T} {n ci index q : Nat} {fs : List Value} (d : Dc cc pc (.getfield index) 3 pc2) (hc : vwCl[ci]? = some (C, T, n)) (hin : ∀ w ∈ u_ws C T n, w ∈ wA) (fi : Nat) (hk : fi < n) (hlink : Cond.fieldLink own index (T fi).1 (T fi).2.1 (T fi).2.2.1 ∈ wA) (hq : q < ν.1) (he : w q = .inr (ci, fs)) {v : Value} (hv : fs[fi]? = some v) (k : V κ G b ν w pc2 L (v :: st)) : V κ G b ν w pc L (.ref (b + q) :: st) := by
  obtain ⟨d, rfl⟩ := d
  exact fun H locs ls a1 a2 a3 => va_get X.1 X.2.1 X.ts hin X.2.2.2.1 X.2.2.2.2.2.1 a1 q ((wl_get hq).trans (by rw [he])) hc fi hk (X.word hlink) (fun _ h9 => h9) hv d (k H locs ls a1 a2 a3)
theorem r_put (X : CX κ G cc nL own cx h) {C : String} {T : u_T} {n ci index q : Nat} {fs : List Value} (d : Dc cc pc (.putfield index) 3 pc2) (hc : vwCl[ci]? = some (C, T, n)) (hin : ∀ w ∈ u_ws C T n, w ∈ wA) (ty0 : Nat → FieldType) (hty : ∀ k, k < n → parseFieldDescriptor (T k).2.2.1 = some (ty0 k)) (hnm : ∀ a, a < n → ∀ b, b < n → a ≠ b → (T a).2.1 ≠ (T b).2.1) (fi : Nat) (hk : fi < n) (hlink : Cond.fieldLink own index (T fi).1 (T fi).2.1 (T fi).2.2.1 ∈ wA) (hfin : (T fi).2.2.2 = false) (hq : q < ν.1) (he : w q = .inr (ci, fs)) {v : Value} (hn : narrow (ty0 fi) v = v) (hfit : fits (ty0 fi) v = true) (hl : fi < fs.length) {fs2 : List Value} (hfs : fs.set fi v = fs2)
    (k : ∀ w2 : Wd, w2 q = .inr (ci, fs2) → (∀ j, j ≠ q → w2 j = w j) → V κ G b ν w2 pc2 L st) : V κ G b ν w pc L (v :: .ref (b + q) :: st) := by
  obtain ⟨d, rfl⟩ := d
  subst hfs
  exact fun H locs ls a1 a2 a3 => va_put X.1 X.2.1 X.ts hin ty0 hty hnm X.2.2.2.1 X.2.2.2.2.2.1 a1 wl_D a2 q ((wl_get hq).trans (by rw [he])) hc fi hk (X.word hlink) (fun _ h9 => h9) hfin (hty fi hk) hn hfit hl d (fun H1 locs1 b1 _ b3 => k _ (va_up_self _ _ _) (fun j hj => va_up_ne _ _ hj) H1 locs1 ls (by rw [wl_set] at b1; exact b1) b3 a3)
theorem nI_cl {i n : Nat} (hi : i < n) (hn : n < 2 ^ 31) : (nI i).toNatClampNeg = i := nI_clamp (by omega)
theorem r_iald (X : CX κ G cc nL own cx h) (d : Dc cc pc .iaload 1 pc2) {q n i : Nat} {f : Nat → Int32} (hq : q < ν.1) (he : w q = aI G n f) (hi : i < n) (hn : n < 2 ^ 31) (k : V κ G b ν w pc2 L (.int (f i) :: st)) : V κ G b ν w pc L (.int (nI i) :: .ref (b + q) :: st) := by
  obtain ⟨d, rfl⟩ := d
  intro H locs ls a1 a2 a3
  refine va_iald X.1 X.2.1 X.2.2.2.2.2.1 a1 q 0 ((wl_get hq).trans (by rw [he])) rfl (vp_in_nI hi hn) d ?_
  rw [nI_cl hi hn]
  exact k H locs ls a1 a2 a3
theorem r_iast (X : CX κ G cc nL own cx h) (d : Dc cc pc .iastore 1 pc2) {q n i : Nat} {f : Nat → Int32} {x : Int32} (hq : q < ν.1) (he : w q = aI G n f) (hi : i < n) (hn : n < 2 ^ 31) (k : ∀ w2 : Wd, w2 q = aI G n (upd f i x) → (∀ j, j ≠ q → w2 j = w j) → V κ G b ν w2 pc2 L st) : V κ G b ν w pc L (.int x :: .int (nI i) :: .ref (b + q) :: st) := by
  obtain ⟨d, rfl⟩ := d
  intro H locs ls a1 a2 a3
  refine va_iast X.1 X.2.1 X.2.2.2.2.2.1 a1 wl_D a2 q 0 ((wl_get hq).trans (by rw [he])) rfl (vp_in_nI hi hn) d (fun H1 locs1 b1 _ b3 => ?_)
  rw [wl_set, nI_cl hi hn] at b1
  exact k _ (va_up_self _ _ _) (fun j hj => va_up_ne _ _ hj) H1 locs1 ls b1 b3 a3
theorem r_zald (X : CX κ G cc nL own cx h) (d : Dc cc pc .baload 1 pc2) {q n i : Nat} {f : Nat → Int32} (hq : q < ν.1) (he : w q = aZ G n f) (hi : i < n) (hn : n < 2 ^ 31) (k : V κ G b ν w pc2 L (.int (f i) :: st)) : V κ G b ν w pc L (.int (nI i) :: .ref (b + q) :: st) := by
  obtain ⟨d, rfl⟩ := d
  intro H locs ls a1 a2 a3
  refine va_zald X.1 X.2.1 X.2.2.2.2.2.1 a1 q 1 ((wl_get hq).trans (by rw [he])) rfl (vp_in_nI hi hn) d ?_
  rw [nI_cl hi hn]
  exact k H locs ls a1 a2 a3
theorem r_zast (X : CX κ G cc nL own cx h) (d : Dc cc pc .bastore 1 pc2) {q n i : Nat} {f : Nat → Int32} {x : Int32} (hq : q < ν.1) (he : w q = aZ G n f) (hi : i < n) (hn : n < 2 ^ 31) (hx : vp_nar .boolean x = x) (k : ∀ w2 : Wd, w2 q = aZ G n (upd f i x) → (∀ j, j ≠ q → w2 j = w j) → V κ G b ν w2 pc2 L st) : V κ G b ν w pc L (.int x :: .int (nI i) :: .ref (b + q) :: st) := by
  obtain ⟨d, rfl⟩ := d
  intro H locs ls a1 a2 a3
  refine va_zast X.1 X.2.1 X.2.2.2.2.2.1 a1 wl_D a2 q 1 ((wl_get hq).trans (by rw [he])) rfl (vp_in_nI hi hn) d (fun H1 locs1 b1 _ b3 => ?_)
  rw [wl_set, nI_cl hi hn, hx] at b1
  exact k _ (va_up_self _ _ _) (fun j hj => va_up_ne _ _ hj) H1 locs1 ls b1 b3 a3
theorem r_aald (X : CX κ G cc nL own cx h) (d : Dc cc pc .aaload 1 pc2) {q n i a : Nat} {f : Nat → Option Nat} (hq : q < ν.1) (he : w q = aP G n f) (hi : i < n) (hn : n < 2 ^ 31) (hf : f i = some a) (k : V κ G b ν w pc2 L (.ref a :: st)) : V κ G b ν w pc L (.int (nI i) :: .ref (b + q) :: st) := by
  obtain ⟨d, rfl⟩ := d
  intro H locs ls a1 a2 a3
  refine va_aldq X.1 X.2.1 X.2.2.2.2.2.1 a1 q 2 ((wl_get hq).trans (by rw [he])) rfl (vp_in_nI hi hn) d ?_
  rw [nI_cl hi hn, hf]
  exact k H locs ls a1 a2 a3
theorem r_alen (X : CX κ G cc nL own cx h) (d : Dc cc pc .arraylength 1 pc2) {q n : Nat} {f : Nat → Int32} (hq : q < ν.1) (he : w q = aI G n f) (k : V κ G b ν w pc2 L (.int (nI n) :: st)) : V κ G b ν w pc L (.ref (b + q) :: st) := by
  obtain ⟨d, rfl⟩ := d
  exact fun H locs ls a1 a2 a3 => va_alen (x := (n, .inl f)) (v := nI n) X.1 X.2.1 X.2.2.2.2.2.1 a1 q 0 ((wl_get hq).trans (by rw [he])) (ty := .int) rfl rfl d (k H locs ls a1 a2 a3)
def iab (x : Int32) : Int32 := if 0 ≤ x then x else 0 - x
end HEAP
section MATH
variable {κ : Kx} {G : Gs} {b N : Nat} {cc : ByteArray} {nL : Nat} {own : String} {cx : Cond} {h : Nat} {w : Wd} {pc pc2 : Nat} {L L2 : List (Option Value)} {st : List Value}
theorem r_max (X : CX κ G cc nL own cx (h + 1)) {index : Nat} (d : Dc cc pc (.invokestatic index) 3 pc2) (h1 : Cond.methodLink own index Lib.Math.max.name ∈ wA) (h2 : Cond.static Lib.Math.max.name ∈ wA) (h3 : Cond.initialized "java/lang/Math" ∈ wA) (h4 : Cond.code Lib.Math.max.name Lib.Math.max.code 2 (some .int) ∈ wA) (hnL : L.length = nL) (hcat : (st.map fun v => v.category).sum ≤ 8) {x y : Int32} (z : Int32) (e : (if x < y then y else x) = z) (k : V κ G b (N, 0, 0) w pc2 L (.int z :: st)) : V κ G b (N, 0, 0) w pc L (.int y :: .int x :: st) := by
  obtain ⟨d, rfl⟩ := d
  subst e
  exact fun H locs ls a1 a2 a3 => va_mmax X.1 X.2.1 (by rw [a3.1, hnL]; exact X.2.2.1) X.2.2.2.1 (X.word h1) (X.word h2) (X.word h3) (X.word h4) (by rw [X.2.2.2.2.2.2.1]; omega) (by rw [X.2.2.2.2.2.2.2]; omega) (Nat.zero_le _) (Nat.zero_le _) d (k H locs ls a1 a2 a3)
theorem r_min (X : CX κ G cc nL own cx (h + 1)) {index : Nat} (d : Dc cc pc (.invokestatic index) 3 pc2) (h1 : Cond.methodLink own index Lib.Math.min.name ∈ wA) (h2 : Cond.static Lib.Math.min.name ∈ wA) (h3 : Cond.initialized "java/lang/Math" ∈ wA) (h4 : Cond.code Lib.Math.min.name Lib.Math.min.code 2 (some .int) ∈ wA) (hnL : L.length = nL) (hcat : (st.map fun v => v.category).sum ≤ 8) {x y : Int32} (z : Int32) (e : (if y < x then y else x) = z) (k : V κ G b (N, 0, 0) w pc2 L (.int z :: st)) : V κ G b (N, 0, 0) w pc L (.int y :: .int x :: st) := by
  obtain ⟨d, rfl⟩ := d
  subst e
  exact fun H locs ls a1 a2 a3 => va_mmin X.1 X.2.1 (by rw [a3.1, hnL]; exact X.2.2.1) X.2.2.2.1 (X.word h1) (X.word h2) (X.word h3) (X.word h4) (by rw [X.2.2.2.2.2.2.1]; omega) (by rw [X.2.2.2.2.2.2.2]; omega) (Nat.zero_le _) (Nat.zero_le _) d (k H locs ls a1 a2 a3)
theorem r_abs (X : CX κ G cc nL own cx (h + 1)) {index : Nat} (d : Dc cc pc (.invokestatic index) 3 pc2) (h1 : Cond.methodLink own index Lib.Math.abs.name ∈ wA) (h2 : Cond.static Lib.Math.abs.name ∈ wA) (h3 : Cond.initialized "java/lang/Math" ∈ wA) (h4 : Cond.code Lib.Math.abs.name Lib.Math.abs.code 1 (some .int) ∈ wA) (hnL : L.length = nL) (hcat : (st.map fun v => v.category).sum ≤ 8) {x : Int32} (z : Int32) (e : iab x = z) (k : V κ G b (N, 0, 0) w pc2 L (.int z :: st)) : V κ G b (N, 0, 0) w pc L (.int x :: st) := by
  obtain ⟨d, rfl⟩ := d
  subst e
  exact fun H locs ls a1 a2 a3 => va_mabs X.1 X.2.1 (by rw [a3.1, hnL]; exact X.2.2.1) X.2.2.2.1 (X.word h1) (X.word h2) (X.word h3) (X.word h4) (by rw [X.2.2.2.2.2.2.1]; omega) (by rw [X.2.2.2.2.2.2.2]; omega) (Nat.zero_le _) (Nat.zero_le _) d (k H locs ls a1 a2 a3)
end MATH
/-! calls -/
section CALLS
variable {κ : Kx} {G : Gs} {b N : Nat} {cc : ByteArray} {nL : Nat} {own : String} {cx : Cond} {h : Nat} {w : Wd} {pc pc2 : Nat} {L L2 : List (Option Value)} {st st0 : List Value}
theorem blindP {G : Gs} {b N : Nat} {w : Wd} {av : List Value} : FrameBlind (va_Pc av (fun U => WP G b N w U.heap ∧ KK G U)) := fun a U g mk q => ⟨q.1, q.2.1, KK.moved (u := U) (U := U.calling g mk a) (Vm.Alike.refl U.vm) q.2.2⟩
theorem goodA {y : Cond} (hy : y ∈ wA) : GoodIn (cx :: wA) (y :: wA) := by
  have g : ∀ w ∈ wA, (w.onTables && w.keeps) = true ∨ ∃ ty, w = .arrayClass ty := fun w hw => good_of_word (List.all_eq_true.mp wA_good w hw)
  intro w hw
  rcases List.mem_cons.mp hw with rfl | hw
  · exact ⟨List.mem_cons_of_mem _ hy, g _ hy⟩
  · exact ⟨List.mem_cons_of_mem _ hw, g _ hw⟩
theorem goodV {C : String} {index : Nat} {y : MethodName} {bytes : ByteArray} {maxL : Nat} {ret : Option FieldType} (h1 : Cond.methodLink own index y ∈ wA) (h2 : Cond.instanceMethod y ∈ wA) (h3 : Cond.selects C y y ∈ wA) (h4 : Cond.initialized C ∈ wA) (h5 : Cond.code y bytes maxL ret ∈ wA) : GoodIn (cx :: wA) (wsV own index C y (Cond.code y bytes maxL ret :: wA)) := by
  have g : ∀ w ∈ wA, (w.onTables && w.keeps) = true ∨ ∃ ty, w = .arrayClass ty := fun w hw => good_of_word (List.all_eq_true.mp wA_good w hw)
  intro w hw
  have hm : w ∈ wA := by
    simp only [wsV, List.mem_append, List.mem_cons, List.not_mem_nil, or_false] at hw
    rcases hw with (rfl | rfl | rfl | rfl) | rfl | hw
    · exact h1
    · exact h2
    · exact h3
    · exact h4
    · exact h5
    · exact hw
  exact ⟨List.mem_cons_of_mem _ hm, g _ hm⟩
theorem goodS {index : Nat} {y : MethodName} {bytes : ByteArray} {maxL : Nat} {ret : Option FieldType} (h1 : Cond.methodLink own index y ∈ wA) (h2 : Cond.static y ∈ wA) (h4 : Cond.initialized y.cls ∈ wA) (h5 : Cond.code y bytes maxL ret ∈ wA) : GoodIn (cx :: wA) (va_wsS own index y (Cond.code y bytes maxL ret :: wA)) := by
  have g : ∀ w ∈ wA, (w.onTables && w.keeps) = true ∨ ∃ ty, w = .arrayClass ty := fun w hw => good_of_word (List.all_eq_true.mp wA_good w hw)
  intro w hw
  have hm : w ∈ wA := by
    simp only [va_wsS, List.mem_append, List.mem_cons, List.not_mem_nil, or_false] at hw
    rcases hw with (rfl | rfl | rfl) | rfl | hw
    · exact h1
    · exact h2
    · exact h4
    · exact h5
    · exact hw
  exact ⟨List.mem_cons_of_mem _ hm, g _ hm⟩
variable {y : MethodName} {bytes : ByteArray} {maxL n index hc q ci : Nat} {ret : Option FieldType} {C : String} {T : u_T} {nf : Nat} {fs As : List Value}
theorem r_callVi (X : CX κ G cc nL own cx h) {post : Int32 → Wd → Prop} (hM : CI κ.1.2.1 y bytes maxL ret hc G b N w (.ref (b + q) :: As) post) (d : Dc cc pc (.invokevirtual index) 3 pc2)
    (h1 : Cond.methodLink own index y ∈ wA) (h2 : Cond.instanceMethod y ∈ wA) (h3 : Cond.selects C y y ∈ wA) (h4 : Cond.initialized C ∈ wA) (h5 : Cond.code y bytes maxL ret ∈ wA)
    (hd : y.cls = C ∧ y.cls ≠ "java/lang/invoke/MethodHandle" ∧ y.cls ≠ "java/lang/invoke/VarHandle" ∧ (parseMethodDescriptor y.desc).map (fun d => d.parameters.length) = some n) (hn : As.length = n) (hR : hc + 1 ≤ h) (hmx : maxL ≤ 21)
    (hq : q < N) (he : w q = .inr (ci, fs)) (hcl : vwCl[ci]? = some (C, T, nf)) (hnL : L.length = nL) (hst : st0 = As.reverse ++ .ref (b + q) :: st) (hcat : (st.map fun v => v.category).sum ≤ 8)
    (k : ∀ (r : Int32) (w2 : Wd), post r w2 → V κ G b (N, 0, 0) w2 pc2 L (.int r :: st)) : V κ G b (N, 0, 0) w pc L st0 := by
  obtain ⟨d, rfl⟩ := d
  intro H locs ls a1 a2 a3
  have a1' : WP G b N w H := a1
  refine va_calli (va_runV (As := As) (rest := st) (C := C) (n := n) (bytes := bytes) (maxL := maxL) (ret := ret) ⟨X.1, X.2.1, X.2.2.1, X.2.2.2.1, X.2.2.2.2.1⟩ hM (cwV n X.2.2.2.2.1 (goodV h1 h2 h3 h4 h5) rfl rfl rfl hd ⟨by rw [X.2.2.2.2.2.2.1]; exact hR, by rw [X.2.2.2.2.2.2.2]; show 8 + (maxL + 11) + 40 * hc ≤ 40 * h; omega⟩) ⟨blindP, va_recv X.2.2.2.2.2.1 a1 hcl (q0 := q) ((wl_get hq).trans (by rw [he])), fun U hU hW => ⟨rfl, by rw [hU]; exact a1', KK.moved hW.alike X.2.2.2.2.2.1⟩⟩ rfl hn (a3.1.trans hnL) hst (lv_room hcat) d ⟨Nat.zero_le _, Nat.zero_le _⟩) a2 (fun q _ h => h) (fun q h => h) (fun r w2 t H1 locs1 ht hvm hp hB hz hk hS => ?_)
  rw [ht] at hB
  exact k r w2 hp H1 locs1 ls hB hS a3
theorem r_callVv (X : CX κ G cc nL own cx h) {post : Wd → Prop} (hM : CV κ.1.2.1 y bytes maxL hc G b N w (.ref (b + q) :: As) post) (d : Dc cc pc (.invokevirtual index) 3 pc2)
    (h1 : Cond.methodLink own index y ∈ wA) (h2 : Cond.instanceMethod y ∈ wA) (h3 : Cond.selects C y y ∈ wA) (h4 : Cond.initialized C ∈ wA) (h5 : Cond.code y bytes maxL none ∈ wA)
    (hd : y.cls = C ∧ y.cls ≠ "java/lang/invoke/MethodHandle" ∧ y.cls ≠ "java/lang/invoke/VarHandle" ∧ (parseMethodDescriptor y.desc).map (fun d => d.parameters.length) = some n) (hn : As.length = n) (hR : hc + 1 ≤ h) (hmx : maxL ≤ 21)
    (hq : q < N) (he : w q = .inr (ci, fs)) (hcl : vwCl[ci]? = some (C, T, nf)) (hnL : L.length = nL) (hst : st0 = As.reverse ++ .ref (b + q) :: st) (hcat : (st.map fun v => v.category).sum ≤ 8)
    (k : ∀ (w2 : Wd), post w2 → V κ G b (N, 0, 0) w2 pc2 L st) : V κ G b (N, 0, 0) w pc L st0 := by
  obtain ⟨d, rfl⟩ := d
  intro H locs ls a1 a2 a3
  have a1' : WP G b N w H := a1
  refine va_callv (va_runV (As := As) (rest := st) (C := C) (n := n) (bytes := bytes) (maxL := maxL) (ret := none) ⟨X.1, X.2.1, X.2.2.1, X.2.2.2.1, X.2.2.2.2.1⟩ hM (cwV n X.2.2.2.2.1 (goodV h1 h2 h3 h4 h5) rfl rfl rfl hd ⟨by rw [X.2.2.2.2.2.2.1]; exact hR, by rw [X.2.2.2.2.2.2.2]; show 8 + (maxL + 11) + 40 * hc ≤ 40 * h; omega⟩) ⟨blindP, va_recv X.2.2.2.2.2.1 a1 hcl (q0 := q) ((wl_get hq).trans (by rw [he])), fun U hU hW => ⟨rfl, by rw [hU]; exact a1', KK.moved hW.alike X.2.2.2.2.2.1⟩⟩ rfl hn (a3.1.trans hnL) hst (lv_room hcat) d ⟨Nat.zero_le _, Nat.zero_le _⟩) a2 (fun q _ h => h) (fun q h => h) (fun w2 t H1 locs1 ht hvm hp hB hz hk hS => ?_)
  rw [ht] at hB
  exact k w2 hp H1 locs1 ls hB hS a3
theorem r_callSi (X : CX κ G cc nL own cx h) {post : Int32 → Wd → Prop} (hM : CI κ.1.2.1 y bytes maxL ret hc G b N w As post) (d : Dc cc pc (.invokestatic index) 3 pc2)
    (h1 : Cond.methodLink own index y ∈ wA) (h2 : Cond.static y ∈ wA) (h4 : Cond.initialized y.cls ∈ wA) (h5 : Cond.code y bytes maxL ret ∈ wA)
    (hd : y.cls ≠ "java/lang/invoke/MethodHandle" ∧ y.cls ≠ "java/lang/invoke/VarHandle" ∧ (parseMethodDescriptor y.desc).map (fun d => d.parameters.length) = some n) (hn : As.length = n) (hR : hc + 1 ≤ h) (hmx : maxL ≤ 21)
    (hnL : L.length = nL) (hst : st0 = As.reverse ++ st) (hcat : (st.map fun v => v.category).sum ≤ 8)
    (k : ∀ (r : Int32) (w2 : Wd), post r w2 → V κ G b (N, 0, 0) w2 pc2 L (.int r :: st)) : V κ G b (N, 0, 0) w pc L st0 := by
  obtain ⟨d, rfl⟩ := d
  intro H locs ls a1 a2 a3
  have a1' : WP G b N w H := a1
  refine va_calli (va_runS (As := As) (rest := st) (n := n) (bytes := bytes) (maxL := maxL) (ret := ret) ⟨X.1, X.2.1, X.2.2.1, X.2.2.2.1, X.2.2.2.2.1⟩ hM (va_cwS n X.2.2.2.2.1 (goodS h1 h2 h4 h5) rfl rfl rfl hd ⟨by rw [X.2.2.2.2.2.2.1]; exact hR, by rw [X.2.2.2.2.2.2.2]; show 8 + (maxL + 11) + 40 * hc ≤ 40 * h; omega⟩) ⟨blindP, fun U hU hW => ⟨rfl, by rw [hU]; exact a1', KK.moved hW.alike X.2.2.2.2.2.1⟩⟩ rfl hn (a3.1.trans hnL) hst (lv_room hcat) d ⟨Nat.zero_le _, Nat.zero_le _⟩) a2 (fun q _ h => h) (fun q h => h) (fun r w2 t H1 locs1 ht hvm hp hB hz hk hS => ?_)
  rw [ht] at hB
  exact k r w2 hp H1 locs1 ls hB hS a3
end CALLS
