/-! orders one after the other -/
def crS (lw : Nat) : Pc → List Nat → Int32 → Int32
  | _, [], c => c
  | P, x :: t, c => crS lw (cutP lw P x) t (c + tA lw P x)
def krS (lw : Nat) : Pc → List Nat → Int32 → Int32
  | _, [], k => k
  | P, x :: t, k => krS lw (cutP lw P x) t (k + kA lw P x)
def ords : Nat → Nat → Nat → List (List Nat)
  | 0, _, _ => [[]]
  | n + 1, a, e => (if 0 < a then (ords n (a - 1) e).map (0 :: ·) else []) ++ (if 0 < e then (ords n a (e - 1)).map (1 :: ·) else [])
theorem trS_fold {lw : Nat} : ∀ (n a e : Nat) (o : List Nat) (c k : Int32) (P : Pc) (ac : Acc), trS lw n a e o c k P ac = (ords n a e).foldl (fun ac t => cmpS ac (o ++ t) (crS lw P t c) (krS lw P t k)) ac
  | 0, a, e, o, c, k, P, ac => by simp only [trS, ords, List.foldl_cons, List.foldl_nil, List.append_nil, crS, krS]
  | n + 1, a, e, o, c, k, P, ac => by
    have h0 : (if 0 < a then trS lw n (a - 1) e (o ++ [0]) (c + tA lw P 0) (k + kA lw P 0) (cutP lw P 0) ac else ac) = (if 0 < a then (ords n (a - 1) e).map (0 :: ·) else []).foldl (fun ac t => cmpS ac (o ++ t) (crS lw P t c) (krS lw P t k)) ac := by
      split
      · rw [trS_fold n (a - 1) e, List.foldl_map]
        simp only [List.append_assoc, List.singleton_append, crS, krS]
      · rfl
    rw [trS, h0, ords, List.foldl_append]
    generalize (if 0 < a then (ords n (a - 1) e).map (0 :: ·) else []).foldl (fun ac t => cmpS ac (o ++ t) (crS lw P t c) (krS lw P t k)) ac = ac1
    split
    · rw [trS_fold n a (e - 1), List.foldl_map]
      simp only [List.append_assoc, List.singleton_append, crS, krS]
    · rfl
/-- the order of n seams that a number tells, the first seam highest -/
def oV : Nat → Nat → List Nat
  | 0, _ => []
  | n + 1, v => v / 2 ^ n % 2 :: oV n v
abbrev bts (v : Nat) : Nat := v / 2 ^ 0 % 2 + v / 2 ^ 1 % 2 + v / 2 ^ 2 % 2 + v / 2 ^ 3 % 2 + v / 2 ^ 4 % 2 + v / 2 ^ 5 % 2
def fS (lw : Nat) (P : Pc) (n e : Nat) : Nat → Acc
  | 0 => (0, [], 0, 0)
  | v + 1 => if bts v = e then cmpS (fS lw P n e v) (oV n v) (crS lw P (oV n v) 0) (krS lw P (oV n v) 0) else fS lw P n e v
theorem fS_fold {lw : Nat} {P : Pc} {n e : Nat} : ∀ v, fS lw P n e v = (((List.range v).filter (fun v => decide (bts v = e))).map (oV n)).foldl (fun ac t => cmpS ac t (crS lw P t 0) (krS lw P t 0)) (0, [], 0, 0)
  | 0 => rfl
  | v + 1 => by
    rw [fS, fS_fold v, List.range_succ, List.filter_append, List.map_append, List.foldl_append]
    by_cases h : bts v = e
    · rw [if_pos h]
      simp [h]
    · rw [if_neg h]
      simp [h]
theorem ord_tab : ∀ a, a < 7 → ∀ e, e < 7 → a + e ≤ 6 → ((List.range (2 ^ (a + e))).filter (fun v => decide (bts v = e))).map (oV (a + e)) = ords (a + e) a e := by decide +kernel
theorem fS_bs {lw : Nat} {P : Pc} {a e : Nat} (h : a + e ≤ 6) : fS lw P (a + e) e (2 ^ (a + e)) = bsA lw P a e := by
  rw [fS_fold, ord_tab a (by omega) e (by omega) h, bsA, trS_fold]
  simp only [List.nil_append]
theorem cnt_tab0 : ∀ a, a < 7 → ∀ e, e < 7 → a + e ≤ 6 → (List.range (2 ^ (a + e))).all (fun v => !(bts v == e) || ((oV (a + e) v).count 0 == a && (oV (a + e) v).count 1 == e)) = true := by decide +kernel
theorem cnt_tab (a : Nat) (ha : a < 7) (e : Nat) (he : e < 7) (h6 : a + e ≤ 6) (v : Nat) (hv : v < 2 ^ (a + e)) (hb : bts v = e) : (oV (a + e) v).count 0 = a ∧ (oV (a + e) v).count 1 = e := by
  have h := List.all_eq_true.mp (cnt_tab0 a ha e he h6) v (List.mem_range.mpr hv)
  have hb2 : (bts v == e) = true := beq_iff_eq.mpr hb
  rw [hb2] at h
  simpa using h
theorem shl_tab : ∀ k, k < 7 → nI 1 <<< (nI k &&& 31) = nI (2 ^ k) := by decide +kernel
def tv (n v : Nat) : Nat → Nat
  | 0 => 0
  | i + 1 => tv n v i + (v / 2 ^ i % 2) * 2 ^ (n - 1 - i)
theorem tv_tab : ∀ n, n < 7 → ∀ v, v < 2 ^ n → ∀ i, i < n → nI (tv n v i) ||| (((nI v >>> (nI i &&& 31)) &&& nI 1) <<< (nI (n - 1 - i) &&& 31)) = nI (tv n v (i + 1)) := by decide +kernel
theorem tv_end : ∀ n, n < 7 → ∀ v, v < 2 ^ n → tv n v n = enc (oV n v) := by decide +kernel
/-- a picture from which the seams of an order can be cut -/
def okR (Q : Pc) (o : List Nat) : Prop := o.count 0 + 2 ≤ Q.1 ∧ Q.1 ≤ 8 ∧ o.count 1 + 2 ≤ Q.2.1 ∧ Q.2.1 ≤ 8
theorem okR.ok {Q : Pc} {o : List Nat} (h : okR Q o) : okPc Q := ⟨by have := h.1; omega, h.2.1, by have := h.2.2.1; omega, h.2.2.2⟩
theorem okR_st {lw x : Nat} {Q : Pc} {o : List Nat} (hx : x < 2) (h : okR Q (x :: o)) : okR (cutP lw Q x) o := by
  obtain ⟨h1, h2, h3, h4⟩ := h
  rcases way_or hx with rfl | rfl
  · rw [List.count_cons_self] at h1
    rw [List.count_cons_of_ne (by decide)] at h3
    exact ⟨by show _ ≤ Q.1 - 1; omega, by show Q.1 - 1 ≤ 8; omega, h3, h4⟩
  · rw [List.count_cons_self] at h3
    rw [List.count_cons_of_ne (by decide)] at h1
    exact ⟨h1, h2, by show _ ≤ Q.2.1 - 1; omega, by show Q.2.1 - 1 ≤ 8; omega⟩
theorem okR_end {lw : Nat} : ∀ (o : List Nat) (Q : Pc), (∀ x ∈ o, x < 2) → okR Q o → okPc (runP lw Q o)
  | [], _, _, h => h.ok
  | x :: o, Q, hx, h => okR_end o (cutP lw Q x) (fun y hy => hx y (List.mem_cons_of_mem _ hy)) (okR_st (hx x List.mem_cons_self) h)
theorem oV_lt (v : Nat) : ∀ n, ∀ x ∈ oV n v, x < 2
  | 0, x, hx => absurd hx List.not_mem_nil
  | n + 1, x, hx => by
    rcases List.mem_cons.mp hx with rfl | q
    · exact Nat.mod_lt _ (by decide)
    · exact oV_lt v n x q
/-- the reference's fields of the best order hold what was found -/
def RB (lw : Nat) (P : Pc) (n : Nat) (ac : Acc) (bc bo ag bk : Int32) : Prop := ag = nI ac.2.2.2 ∧ ((ac.2.2.2 = 0 ∧ bo = -6) ∨ (0 < ac.2.2.2 ∧ bc = ac.1 ∧ bk = ac.2.2.1 ∧ ac.1 = crS lw P ac.2.1 0 ∧ ∃ v, v < 2 ^ n ∧ bo = nI v ∧ ac.2.1 = oV n v))
theorem RB_new {lw n v : Nat} {P : Pc} {ac : Acc} {c k : Int32} (hv : v < 2 ^ n) (hc : c = crS lw P (oV n v) 0) (h : ac.2.2.2 = 0 ∨ c < ac.1) : RB lw P n (cmpS ac (oV n v) c k) c (nI v) (nI 0 + nI 1) k := by
  have h3 : ¬ (0 < ac.2.2.2 ∧ c = ac.1) := fun z => by
    rcases h with h | h
    · omega
    · rw [z.2] at h
      exact absurd (Int32.lt_iff_toInt_lt.mp h) (by omega)
  rw [cmpS, if_neg h3, if_pos h]
  exact ⟨rfl, Or.inr ⟨Nat.one_pos, rfl, rfl, hc, v, hv, rfl, rfl⟩⟩
theorem RB_eq {lw n : Nat} {P : Pc} {ac : Acc} {o : List Nat} {c k bc bo ag bk : Int32} (h : RB lw P n ac bc bo ag bk) (h0 : 0 < ac.2.2.2) (hc : c = ac.1) : RB lw P n (cmpS ac o c k) bc bo (ag + nI 1) bk := by
  rw [cmpS, if_pos ⟨h0, hc⟩]
  obtain ⟨h1, h2⟩ := h
  have h3 := h2.resolve_left (fun q => by omega)
  exact ⟨by rw [h1, nI_add], Or.inr ⟨Nat.succ_pos _, h3.2⟩⟩
theorem RB_ne {lw n : Nat} {P : Pc} {ac : Acc} {o : List Nat} {c k bc bo ag bk : Int32} (h : RB lw P n ac bc bo ag bk) (h0 : 0 < ac.2.2.2) (hc : ¬ c = ac.1) (hl : ¬ c < ac.1) : RB lw P n (cmpS ac o c k) bc bo (ag + nI 0) bk := by
  rw [cmpS, if_neg (fun q => hc q.2), if_neg (fun q => q.elim (fun z => by omega) hl)]
  obtain ⟨h1, h2⟩ := h
  exact ⟨by rw [h1, nI_add]; rfl, h2⟩
