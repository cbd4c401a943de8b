/-! constructors: rows that make cells. The heap's size is known: the world fills it from b on, and no more cells are new than were counted -/
def CN (κ : Kx) (b N0 mc ms : Nat) : Prop := κ.2.1.1.heap.size = b + N0 ∧ κ.1.2.2.2.cells = mc ∧ κ.1.2.2.2.slots = ms ∧ va_AO "SeamPictures$Picture" κ.2.1.1
theorem new_at {p : Program} {l : Launch} {e : Env} {R : Room} {s : State} {m : MethodId} {args : Array Value} {below : List Frame} {meth : Method} {c : Code} {T : State} {locs : List Loc} {slots : Nat} {D : va_G} {cl : List vw_C} {b N N0 k q : Nat} {w : Wd} {x : va_E} {H1 : Heap}
    (Y : s.heap.size = b + N0) (hN : N = N0 + k) (hP : va_P D cl (wl b N w ++ [(q, x)]) H1) (hD : va_D (Ab b) (wl b N w ++ [(q, x)])) (hT : T.heap = H1) (X : Stand p l e R s m args below meth c T locs (k + 1) slots) : q = b + N := by
  have hl : (wl b N w).length = N := by simp [wl]
  have hq : (wl b N w ++ [(q, x)])[N]? = some (q, x) := by
    rw [List.getElem?_append_right (by omega), hl]
    simp
  have h1 : b ≤ q := hD.2 N _ hq
  have h2 : q < H1.size := (hP N _ hq).lt
  have h3 : T.heap.size ≤ s.heap.size + (k + 1) := X.heapSize
  rw [hT, Y] at h3
  by_cases h4 : q < b + N
  · have h5 : (wl b N w ++ [(q, x)])[q - b]? = some (b + (q - b), w (q - b)) := by
      rw [List.getElem?_append_left (by omega)]
      exact wl_get (by omega)
    have := hD.1 (q - b) N _ _ h5 hq (by show b + (q - b) = q; omega)
    omega
  · omega
theorem size_at {p : Program} {l : Launch} {e : Env} {R : Room} {s : State} {m : MethodId} {args : Array Value} {below : List Frame} {meth : Method} {c : Code} {T : State} {locs : List Loc} {slots : Nat} {G : Gs} {b N N0 k : Nat} {w : Wd} {H : Heap} {A : Nat → Prop}
    (Y : s.heap.size = b + N0) (hN : N = N0 + k) (hP : WP G b N w H) (hS : va_S A s.heap H locs) (hT : T.heap = H) (X : Stand p l e R s m args below meth c T locs k slots) : H.size = b + N := by
  have h3 : T.heap.size ≤ s.heap.size + k := X.heapSize
  rw [hT, Y] at h3
  rcases Nat.eq_zero_or_pos N with h0 | h0
  · have := hS.1
    rw [Y] at this
    omega
  · have h2 := (hP (N - 1) _ (wl_get (by omega))).lt
    have h2' : b + (N - 1) < H.size := h2
    omega
theorem nI_nn {n : Nat} (h : n < 2 ^ 31) : ¬ nI n < 0 := fun q => by
  have := Int32.lt_iff_toInt_lt.mp q
  rw [nI_toInt h] at this
  have h0 : (0 : Int32).toInt = 0 := by decide
  omega
section NEWS
variable {κ : Kx} {G : Gs} {b N N0 k sl mc ms : Nat} {cc : ByteArray} {nL : Nat} {own : String} {cx : Cond} {h : Nat} {w : Wd} {pc pc2 : Nat} {L L2 : List (Option Value)} {st : List Value}
theorem CN.ge (Y : CN κ b N0 mc ms) : ∀ q, κ.2.1.1.heap.size ≤ q → Ab b q := fun q hq => by
  show b ≤ q
  rw [Y.1] at hq
  omega
theorem r_new (X : CX κ G cc nL own cx h) (Y : CN κ b N0 mc ms) {C : String} {T : u_T} {n ci index : Nat} (d : Dc cc pc (.new index) 3 pc2) (hc : vwCl[ci]? = some (C, T, n)) (hin : ∀ w ∈ u_ws C T n, w ∈ wA) (ty0 : Nat → FieldType) (hty : ∀ k, k < n → parseFieldDescriptor (T k).2.2.1 = some (ty0 k)) (hcl : Cond.classLink own index C ∈ wA) (hinst : Cond.instantiable C n ∈ wA) (hini : Cond.initialized C ∈ wA) {fs : List Value} (hfs : ∀ j, j < n → defaultValue (ty0 j) = vp_V fs j) (hN : N = N0 + k) (hk : k + 1 ≤ mc) (hs : sl + n ≤ ms)
    (kk : ∀ w2 : Wd, w2 N = .inr (ci, fs) → (∀ j, j ≠ N → w2 j = w j) → V κ G b (N + 1, k + 1, sl + n) w2 pc2 L (.ref (b + N) :: st)) : V κ G b (N, k, sl) w pc L st := by
  obtain ⟨d, rfl⟩ := d
  intro H locs ls a1 a2 a3
  refine va_new X.1 X.2.1 X.ts hin ty0 hty X.2.2.2.1 (X.word hcl) (X.word hinst) (X.word hini) X.2.2.2.2.2.1 a1 wl_D a2 Y.ge hc hfs (by rw [Y.2.1]; exact hk) (by rw [Y.2.2.1]; exact hs) d (fun q H1 hP hD hS => ?_)
  intro T hT XX
  have e := new_at Y.1 hN hP hD hT XX
  subst e
  exact kk _ (va_up_self _ _ _) (fun j hj => va_up_ne _ _ hj) H1 locs ls (by rw [wl_push] at hP; exact hP) hS a3 T hT XX
theorem KI_id {cA : ClassId} {U : State} (hK : KK G U) (hK2 : va_K G.1 vwCl ([(G.2.1, .int), (G.2.2.1, .boolean), (G.2.2.2, .object "SeamPictures$Picture")] ++ [(cA, .int)]) U) : cA = G.2.1 := by
  have h1 : U.vm.findClass ("[" ++ FieldType.int.toString) = some G.2.1 := (hK.2 0 _ rfl).2
  have h2 : U.vm.findClass ("[" ++ FieldType.int.toString) = some cA := (hK2.2 3 _ rfl).2
  exact Option.some.inj (h2.symm.trans h1)
theorem KZ_id {cA : ClassId} {U : State} (hK : KK G U) (hK2 : va_K G.1 vwCl ([(G.2.1, .int), (G.2.2.1, .boolean), (G.2.2.2, .object "SeamPictures$Picture")] ++ [(cA, .boolean)]) U) : cA = G.2.2.1 := by
  have h1 : U.vm.findClass ("[" ++ FieldType.boolean.toString) = some G.2.2.1 := (hK.2 1 _ rfl).2
  have h2 : U.vm.findClass ("[" ++ FieldType.boolean.toString) = some cA := (hK2.2 3 _ rfl).2
  exact Option.some.inj (h2.symm.trans h1)
theorem KP_id {cA : ClassId} {U : State} (hK : KK G U) (hK2 : va_K G.1 vwCl ([(G.2.1, .int), (G.2.2.1, .boolean), (G.2.2.2, .object "SeamPictures$Picture")] ++ [(cA, .object "SeamPictures$Picture")]) U) : cA = G.2.2.2 := by
  obtain ⟨_, _, _, _, _, h1⟩ := (hK.2 2 _ rfl).2
  obtain ⟨_, _, _, _, _, h2⟩ := (hK2.2 3 _ rfl).2
  exact Option.some.inj (h2.symm.trans h1)
theorem r_newI (X : CX κ G cc nL own cx h) (Y : CN κ b N0 mc ms) (d : Dc cc pc (.newarray .int) 2 pc2) {n : Nat} (hn : n < 10000) (hN : N = N0 + k) (hk : k + 1 ≤ mc) (hs : sl + n ≤ ms)
    (kk : ∀ w2 : Wd, w2 N = aI G n (fun _ => 0) → (∀ j, j ≠ N → w2 j = w j) → V κ G b (N + 1, k + 1, sl + n) w2 pc2 L (.ref (b + N) :: st)) : V κ G b (N, k, sl) w pc L (.int (nI n) :: st) := by
  obtain ⟨d, rfl⟩ := d
  intro H locs ls a1 a2 a3
  refine va_newa (atype := .int) (ty := .int) (a0 := (n, .inl (fun _ => 0))) X.1 X.2.1 (X.word qw_41) rfl X.2.2.2.2.2.1 a1 wl_D a2 Y.ge (fun cA => by rw [vp_cell_i]; rfl) (nI_nn (by omega)) (nI_cl (n := 10000) hn (by decide)) (by show n * 4 ≤ _; omega) (by rw [Y.2.1]; exact hk) (by rw [Y.2.2.1]; exact hs) d (fun q cA H1 hK hP hD hS => ?_)
  have hA := KI_id X.2.2.2.2.2.1 hK
  subst hA
  intro T hT XX
  have e := new_at Y.1 hN hP hD hT XX
  subst e
  exact kk _ (va_up_self _ _ _) (fun j hj => va_up_ne _ _ hj) H1 locs ls (by rw [wl_push] at hP; exact hP) hS a3 T hT XX
theorem r_newZ (X : CX κ G cc nL own cx h) (Y : CN κ b N0 mc ms) (d : Dc cc pc (.newarray .boolean) 2 pc2) {n : Nat} (hn : n < 10000) (hN : N = N0 + k) (hk : k + 1 ≤ mc) (hs : sl + n ≤ ms)
    (kk : ∀ w2 : Wd, w2 N = aZ G n (fun _ => 0) → (∀ j, j ≠ N → w2 j = w j) → V κ G b (N + 1, k + 1, sl + n) w2 pc2 L (.ref (b + N) :: st)) : V κ G b (N, k, sl) w pc L (.int (nI n) :: st) := by
  obtain ⟨d, rfl⟩ := d
  intro H locs ls a1 a2 a3
  refine va_newa (atype := .boolean) (ty := .boolean) (a0 := (n, .inl (fun _ => 0))) X.1 X.2.1 (X.word qw_33) rfl X.2.2.2.2.2.1 a1 wl_D a2 Y.ge (fun cA => by rw [vp_cell_i]; rfl) (nI_nn (by omega)) (nI_cl (n := 10000) hn (by decide)) (by show n * 1 ≤ _; omega) (by rw [Y.2.1]; exact hk) (by rw [Y.2.2.1]; exact hs) d (fun q cA H1 hK hP hD hS => ?_)
  have hA := KZ_id X.2.2.2.2.2.1 hK
  subst hA
  intro T hT XX
  have e := new_at Y.1 hN hP hD hT XX
  subst e
  exact kk _ (va_up_self _ _ _) (fun j hj => va_up_ne _ _ hj) H1 locs ls (by rw [wl_push] at hP; exact hP) hS a3 T hT XX
theorem r_newP (X : CX κ G cc nL own cx h) (Y : CN κ b N0 mc ms) {index : Nat} (d : Dc cc pc (.anewarray index) 3 pc2) (hcl : Cond.classLink own index RX3 ∈ wA) {n : Nat} (hn : n < 10000) (hN : N = N0 + k) (hk : k + 1 ≤ mc) (hs : sl + n ≤ ms)
    (kk : ∀ w2 : Wd, w2 N = aP G n (fun _ => none) → (∀ j, j ≠ N → w2 j = w j) → V κ G b (N + 1, k + 1, sl + n) w2 pc2 L (.ref (b + N) :: st)) : V κ G b (N, k, sl) w pc L (.int (nI n) :: st) := by
  obtain ⟨d, rfl⟩ := d
  intro H locs ls a1 a2 a3
  refine va_newq (C := "SeamPictures$Picture") X.1 X.2.1 X.2.2.2.1 (X.word hcl) Y.2.2.2 X.2.2.2.2.2.1 a1 wl_D a2 Y.ge (nI_nn (by omega)) (nI_cl (n := 10000) hn (by decide)) (by omega) (by rw [Y.2.1]; exact hk) (by rw [Y.2.2.1]; exact hs) d (fun q cA H1 hK hP hD hS => ?_)
  have hA := KP_id X.2.2.2.2.2.1 hK
  subst hA
  intro T hT XX
  have e := new_at Y.1 hN hP hD hT XX
  subst e
  exact kk _ (va_up_self _ _ _) (fun j hj => va_up_ne _ _ hj) H1 locs ls (by rw [wl_push] at hP; exact hP) hS a3 T hT XX
theorem r_aast {ν : Nat × Nat × Nat} (X : CX κ G cc nL own cx h) (d : Dc cc pc .aastore 1 pc2) {q n i v : Nat} {f : Nat → Option Nat} {fs : List Value} (hq : q < ν.1) (he : w q = aP G n f) (hv : v < ν.1) (hf : w v = .inr (3, fs)) (hi : i < n) (hn : n < 2 ^ 31)
    (kk : ∀ w2 : Wd, w2 q = aP G n (va_up f i (some (b + v))) → (∀ j, j ≠ q → w2 j = w j) → V κ G b ν w2 pc2 L st) : V κ G b ν w pc L (.ref (b + v) :: .int (nI i) :: .ref (b + q) :: st) := by
  obtain ⟨d, rfl⟩ := d
  intro H locs ls a1 a2 a3
  refine va_astq (r := (RX3, TX3, 5)) (vs := fs) X.1 X.2.1 X.2.2.2.2.2.1 a1 wl_D a2 q 2 v 3 ((wl_get hq).trans (by rw [he])) rfl ((wl_get hv).trans (by rw [hf])) rfl (vp_in_nI hi hn) d (fun H1 locs1 b1 _ b3 => ?_)
  rw [wl_set, nI_cl hi hn] at b1
  exact kk _ (va_up_self _ _ _) (fun j hj => va_up_ne _ _ hj) H1 locs1 ls b1 b3 a3
theorem r_putF {ν : Nat × Nat × Nat} (X : CX κ G cc nL own cx h) (hi : κ.2.2.1.name = "<init>") {C : String} {T : u_T} {n ci index q : Nat} {fs : List Value} (d : Dc cc pc (.putfield index) 3 pc2) (hc : vwCl[ci]? = some (C, T, n)) (hin : ∀ w ∈ u_ws C T n, w ∈ wA) (ty0 : Nat → FieldType) (hty : ∀ k, k < n → parseFieldDescriptor (T k).2.2.1 = some (ty0 k)) (hnm : ∀ a, a < n → ∀ b, b < n → a ≠ b → (T a).2.1 ≠ (T b).2.1) (fi : Nat) (hk : fi < n) (hlink : Cond.fieldLink own index (T fi).1 (T fi).2.1 (T fi).2.2.1 ∈ wA) (hfin : (T fi).2.2.2 = true) (hdecl : (T fi).1 = own) (hq : q < ν.1) (he : w q = .inr (ci, fs)) {v : Value} (hn : narrow (ty0 fi) v = v) (hfit : fits (ty0 fi) v = true) (hl : fi < fs.length) {fs2 : List Value} (hfs : fs.set fi v = fs2)
    (k : ∀ w2 : Wd, w2 q = .inr (ci, fs2) → (∀ j, j ≠ q → w2 j = w j) → V κ G b ν w2 pc2 L st) : V κ G b ν w pc L (v :: .ref (b + q) :: st) := by
  obtain ⟨d, rfl⟩ := d
  subst hfs
  exact fun H locs ls a1 a2 a3 => va_putF X.1 X.2.1 X.ts hin ty0 hty hnm X.2.2.2.1 X.2.2.2.2.2.1 a1 wl_D a2 q ((wl_get hq).trans (by rw [he])) hc fi hk (X.word hlink) (fun _ h9 => h9) hfin hi hdecl (hty fi hk) hn hfit hl d (fun H1 locs1 b1 _ b3 => k _ (va_up_self _ _ _) (fun j hj => va_up_ne _ _ hj) H1 locs1 ls (by rw [wl_set] at b1; exact b1) b3 a3)
theorem r_obj {ν : Nat × Nat × Nat} (X : CX κ G cc nL own cx (h + 1)) {index a : Nat} (d : Dc cc pc (.invokespecial index) 3 pc2) (hl : Cond.methodLink own index objectInit ∈ wA) (hnL : L.length = nL) (hcat : (st.map fun v => v.category).sum ≤ 8) (k : V κ G b ν w pc2 L st) : V κ G b ν w pc L (.ref a :: st) := by
  obtain ⟨d, rfl⟩ := d
  intro H locs ls a1 a2 a3
  refine W.objInit X.1 X.2.1 X.2.2.2.1 (X.word hl) (X.word qw_10) (X.word qw_11) rfl (by rw [X.2.2.1]; exact a3.1.trans hnL) rfl d (by rw [X.2.2.2.2.2.2.1]; omega) (by rw [X.2.2.2.2.2.2.2]; have h9 : 2 * (F0 κ.2.1.2.1 pc ls (Value.ref a :: st)).monitorRoom + (st.map fun v => v.category).sum ≤ 8 := lv_room hcat; omega) ?_
  exact k H locs ls a1 a2 a3
end NEWS
/-! a constructor's contract -/
def CK (l : Launch) (y : MethodName) (bytes : ByteArray) (maxL : Nat) (h : Nat) (G : Gs) (b N : Nat) (w : Wd) (av : List Value) (mc ms : Nat) (post : Wd → Prop) : Prop :=
  Met l y (Cond.code y bytes maxL none :: wA) ({ frames := h, cells := mc, slots := ms, locals := 40 * h }) (va_Pc av (fun U => U.heap.size = b + N ∧ va_AO "SeamPictures$Picture" U ∧ WP G b N w U.heap ∧ KK G U)) (va_Qv post (fun w2 t => WP G b (N + mc) w2 t.heap) (Ab b)) mc ms (Ab b)
theorem CK_of {l : Launch} {y : MethodName} {bytes : ByteArray} {maxL h : Nat} {G : Gs} {b N mc ms : Nat} {w : Wd} {av : List Value} {own : String} {L0 : List (Option Value)} {post : Wd → Prop} (hy : plainName y.cls = true) (hown : y.cls = own) (hnm : y.name = "<init>") (hc : ∀ v ∈ av, v.category = 1) (hL : L0 = av.map some ++ List.replicate (maxL - av.length) none) (hn : av.length ≤ maxL)
    (body : ∀ κ : Kx, CX κ G bytes maxL own (Cond.code y bytes maxL none) h → CN κ b N mc ms → κ.2.2.1.name = "<init>" → (∀ (pc pc2 : Nat) (w2 : Wd) (L : List (Option Value)), Dc bytes pc .return_ 1 pc2 → post w2 → V κ G b (N + mc, mc, ms) w2 pc L []) → V κ G b (N, 0, 0) w 0 L0 []) :
    CK l y bytes maxL h G b N w av mc ms post := by
  refine Met.ofW (cc := bytes) (maxL := maxL) (ret := none) hy rfl ?_
  intro p e s m args below meth c s₁ B hml hv
  obtain ⟨rfl, hsz, hao, hP, hK⟩ := hv
  have hts := atoms_spec (ws := Cond.code y bytes maxL none :: wA) B.pre
  have hfc : s.vm.findClass own = some m.cls := hown ▸ findClass_of_methodNamed B.named
  have hin : meth.name = "<init>" := (name_of_methodNamed B.named B.method).1.trans hnm
  have hlocks := B.notSynchronized
  have hl := lv_entry av (n := maxL) (by rw [sl_len hc]; exact hn)
  rw [lg_entry_eq]
  generalize (lg_sl av ++ List.replicate (maxL - (lg_sl av).length) Slot.unset).toArray = ls at hl ⊢
  refine body ((p, l, e, _), (s, m, av.toArray, below), (meth, c, _)) ⟨B.exec, B.bytes, hml, hfc, hts, hK, rfl, rfl⟩ ⟨hsz, rfl, rfl, hao⟩ hin ?_ s.heap [] ls hP va_S.rf (LVp_entry hl hc hL hn)
  intro pc pc2 w2 L d hp H locs ls2 hP2 hS2 hL2
  exact W.vret B.exec B.bytes B.returns (fun t ht hW => ⟨⟨w2, rfl, hp, by show WP G b (N + mc) w2 t.heap; rw [ht]; exact hP2⟩, hS2.F ht⟩) hS2.2.2 d.1
theorem blindK {G : Gs} {b N : Nat} {w : Wd} {av : List Value} : FrameBlind (va_Pc av (fun U => U.heap.size = b + N ∧ va_AO "SeamPictures$Picture" U ∧ WP G b N w U.heap ∧ KK G U)) := fun a U g mk q => ⟨q.1, q.2.1, va_AO.moved (u := U) (U := U.calling g mk a) (Vm.Alike.refl U.vm) q.2.2.1, q.2.2.2.1, KK.moved (u := U) (U := U.calling g mk a) (Vm.Alike.refl U.vm) q.2.2.2.2⟩
section CALLN
variable {κ : Kx} {G : Gs} {b N N0 k sl mc ms mc1 ms1 : Nat} {cc : ByteArray} {nL : Nat} {own : String} {cx : Cond} {h hc : Nat} {w : Wd} {pc pc2 : Nat} {L L2 : List (Option Value)} {st : List Value} {y : MethodName} {bytes : ByteArray} {maxL index q : Nat}
theorem r_callN (X : CX κ G cc nL own cx h) (Y : CN κ b N0 mc ms) {post : Wd → Prop} (hM : CK κ.1.2.1 y bytes maxL hc G b N w [.ref (b + q)] mc1 ms1 post) (d : Dc cc pc (.invokespecial index) 3 pc2)
    (h1 : Cond.methodLink own index y ∈ wA) (h2 : Cond.instanceMethod y ∈ wA) (h4 : Cond.initialized y.cls ∈ wA) (h5 : Cond.code y bytes maxL none ∈ wA) (hy1 : y.name = "<init>")
    (hd : y.cls ≠ "java/lang/invoke/MethodHandle" ∧ y.cls ≠ "java/lang/invoke/VarHandle" ∧ (parseMethodDescriptor y.desc).map (fun d => d.parameters.length) = some 0) (hR : hc + 1 ≤ h) (hmx : maxL ≤ 21)
    (hnL : L.length = nL) (hcat : (st.map fun v => v.category).sum ≤ 8) (hN : N = N0 + k) (hk : k + mc1 ≤ mc) (hs : sl + ms1 ≤ ms)
    (kk : ∀ (w2 : Wd), post w2 → V κ G b (N + mc1, k + mc1, sl + ms1) w2 pc2 L st) : V κ G b (N, k, sl) w pc L (.ref (b + q) :: st) := by
  obtain ⟨d, rfl⟩ := d
  intro H locs ls a1 a2 a3 T hT XX
  have a1' : WP G b N w H := a1
  have hz : H.size = b + N := size_at Y.1 hN a1' a2 hT XX
  refine va_callv (va_runI (As := []) (rest := st) (n := 0) (bytes := bytes) (maxL := maxL) ⟨X.1, X.2.1, X.2.2.1, X.2.2.2.1, X.2.2.2.2.1⟩ hM (cwI 0 X.2.2.2.2.1 (goodA h5) rfl rfl rfl (X.word h4) (X.word h1) (X.word h2) hy1 hd ⟨by rw [X.2.2.2.2.2.2.1]; exact hR, by rw [X.2.2.2.2.2.2.2]; show 8 + (maxL + 11) + 40 * hc ≤ 40 * h; omega⟩) ⟨blindK, fun U hU hW => ⟨rfl, by rw [hU]; exact hz, va_AO.moved hW.alike Y.2.2.2, by rw [hU]; exact a1', KK.moved hW.alike X.2.2.2.2.2.1⟩⟩ rfl rfl (a3.1.trans hnL) rfl (lv_room hcat) d ⟨by rw [Y.2.1]; exact hk, by rw [Y.2.2.1]; exact hs⟩) a2 (fun q _ h => h) (fun q h => h) (fun w2 t H1 locs1 ht hvm hp hB hz hk hS => ?_) T hT XX
  rw [ht] at hB
  exact kk w2 hp H1 locs1 ls hB hS a3
end CALLN
