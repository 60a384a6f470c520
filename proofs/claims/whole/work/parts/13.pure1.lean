/-! what reading is, without a machine -/
def idS (row : Nat → Nat) (rs nd lv place : Nat) : Option (Int32 × Int32) := if rs ≤ place then some (-1, nI rs) else if ¬ isId (nI (row place)) then some (-2, nI place) else if 64 ≤ nd ∨ 16 ≤ lv then some (-7, nI place) else none
def parI (lv : Nat) (ar : Nat → Nat) : Int32 := if lv = 0 then -1 else nI (ar (lv - 1))
def lenS (row : Nat → Nat) (L lv rs place : Nat) : (Int32 × Int32) ⊕ (Nat × Nat) :=
  if L ≤ place + 1 then .inl (cutE lv rs place)
  else if row (place + 1) = 128 ∨ 130 < row (place + 1) then .inl (-3, nI (place + 1))
  else if row (place + 1) < 128 then .inr (row (place + 1), place + 1 + 0 + 1)
  else if L ≤ place + 1 + (row (place + 1) - 128) then .inl (cutE lv rs place)
  else if ¬ lenSz (numN row (place + 1 + 1) (row (place + 1) - 128)) = 1 + (row (place + 1) - 128) then .inl (-3, nI (place + 1))
  else .inr (numN row (place + 1 + 1) (row (place + 1) - 128), place + 1 + (row (place + 1) - 128) + 1)
def conS (tag : Nat) (row : Nat → Nat) (a n L place : Nat) : Option (Int32 × Int32) := if L - a < n then some (-4, nI place) else if ¬ okC tag row a n = true then some (-5, nI place) else none
def valS (row : Nat → Nat) (rs nd lv : Nat) (ar st ln : Nat → Nat) (place : Nat) : (Int32 × Int32) ⊕ (Nat × Nat) :=
  match idS row rs nd lv place with
  | some e => .inl e
  | none => match lenS row (limN rs lv ar st ln) lv rs place with
    | .inl e => .inl e
    | .inr x => match conS (row place) row x.2 x.1 (limN rs lv ar st ln) place with
      | some e => .inl e
      | none => .inr x
def popN (st ln ar : Nat → Nat) (pl : Nat) : Nat → Nat
  | 0 => 0
  | k + 1 => if st (ar k) + ln (ar k) = pl then popN st ln ar pl k else k + 1
theorem popN_go {st ln ar : Nat → Nat} {pl k : Nat} (h0 : 0 < k) (h : st (ar (k - 1)) + ln (ar (k - 1)) = pl) : popN st ln ar pl k = popN st ln ar pl (k - 1) := by
  obtain ⟨j, rfl⟩ : ∃ j, k = j + 1 := ⟨k - 1, by omega⟩
  have h : st (ar j) + ln (ar j) = pl := h
  show (if st (ar j) + ln (ar j) = pl then popN st ln ar pl j else j + 1) = _
  rw [if_pos h]; rfl
theorem popN_stop {st ln ar : Nat → Nat} {pl k : Nat} (h : k = 0 ∨ ¬ st (ar (k - 1)) + ln (ar (k - 1)) = pl) : popN st ln ar pl k = k := by
  cases k with
  | zero => rfl
  | succ j =>
    show (if st (ar j) + ln (ar j) = pl then popN st ln ar pl j else j + 1) = _
    rw [if_neg]
    rcases h with h | h
    · omega
    · exact h
theorem popN_le (st ln ar : Nat → Nat) (pl : Nat) : ∀ k, popN st ln ar pl k ≤ k
  | 0 => Nat.le_refl 0
  | k + 1 => by
    show (if st (ar k) + ln (ar k) = pl then popN st ln ar pl k else k + 1) ≤ k + 1
    have := popN_le st ln ar pl k
    split <;> omega
theorem popN_ne (st ln ar : Nat → Nat) (pl : Nat) : ∀ k, 0 < popN st ln ar pl k → ¬ st (ar (popN st ln ar pl k - 1)) + ln (ar (popN st ln ar pl k - 1)) = pl
  | 0 => fun h => absurd h (Nat.lt_irrefl 0)
  | k + 1 => by
    by_cases q : st (ar k) + ln (ar k) = pl
    · have e : popN st ln ar pl (k + 1) = popN st ln ar pl k := by
        show (if st (ar k) + ln (ar k) = pl then popN st ln ar pl k else k + 1) = _
        rw [if_pos q]
      rw [e]
      exact popN_ne st ln ar pl k
    · have e : popN st ln ar pl (k + 1) = k + 1 := by
        show (if st (ar k) + ln (ar k) = pl then popN st ln ar pl k else k + 1) = _
        rw [if_neg q]
      rw [e]
      intro _
      exact q
theorem cutE_ne {lv rs pl : Nat} {r o : Int32} (h : (r, o) = cutE lv rs pl) : r ≠ 0 := by
  unfold cutE at h
  split at h <;> (cases h; decide)
theorem num16 {f : Nat → Nat} (hf : ∀ j, f j < 256) {p k : Nat} (hk : k ≤ 2) : numN f p k < 65536 := by
  refine Nat.lt_of_lt_of_le (numN_lt hf p k) ?_
  rcases (show k = 0 ∨ k = 1 ∨ k = 2 by omega) with rfl | rfl | rfl <;> decide
def PInv (rs place nd lv : Nat) (tg st ln ar : Nat → Nat) : Prop :=
  nd ≤ 64 ∧ lv ≤ 16 ∧ place ≤ rs ∧ (∀ j, tg j < 256) ∧ (∀ j, st j < 1000) ∧ (∀ j, ln j < 65536) ∧ (∀ j, ar j < 64) ∧ (∀ j, j < lv → ar j < nd) ∧ (∀ j, j < nd → st j + ln j ≤ rs) ∧ (∀ j, j + 1 < lv → st (ar (j + 1)) + ln (ar (j + 1)) ≤ st (ar j) + ln (ar j)) ∧ (0 < lv → place < st (ar (lv - 1)) + ln (ar (lv - 1)))
theorem PInv.lim {rs place nd lv : Nat} {tg st ln ar : Nat → Nat} (h : PInv rs place nd lv tg st ln ar) : limN rs lv ar st ln ≤ rs := by
  obtain ⟨h1, h2, h3, h4, h5, h6, h7, h8, h9, h10, h11⟩ := h
  unfold limN
  split
  · exact Nat.le_refl _
  · exact h9 _ (h8 _ (by omega))
theorem idS_none {row : Nat → Nat} {rs nd lv place : Nat} (h : idS row rs nd lv place = none) : place < rs ∧ isId (nI (row place)) ∧ nd < 64 ∧ lv < 16 := by
  unfold idS at h
  by_cases h1 : rs ≤ place
  · rw [if_pos h1] at h; cases h
  · rw [if_neg h1] at h
    by_cases h2 : ¬ isId (nI (row place))
    · rw [if_pos h2] at h; cases h
    · rw [if_neg h2] at h
      by_cases h3 : 64 ≤ nd ∨ 16 ≤ lv
      · rw [if_pos h3] at h; cases h
      · exact ⟨by omega, Classical.byContradiction h2, by omega, by omega⟩
theorem lenS_ok {row : Nat → Nat} (hrow : ∀ j, row j < 256) {L lv rs place : Nat} {x : Nat × Nat} (h : lenS row L lv rs place = .inr x) : place + 1 < x.2 ∧ x.2 ≤ L ∧ x.1 < 65536 := by
  unfold lenS at h
  have hb := hrow (place + 1)
  by_cases h1 : L ≤ place + 1
  · rw [if_pos h1] at h; cases h
  rw [if_neg h1] at h
  by_cases h2 : row (place + 1) = 128 ∨ 130 < row (place + 1)
  · rw [if_pos h2] at h; cases h
  rw [if_neg h2] at h
  by_cases h3 : row (place + 1) < 128
  · rw [if_pos h3] at h; cases h; exact ⟨by omega, by omega, by omega⟩
  rw [if_neg h3] at h
  by_cases h4 : L ≤ place + 1 + (row (place + 1) - 128)
  · rw [if_pos h4] at h; cases h
  rw [if_neg h4] at h
  by_cases h5 : ¬ lenSz (numN row (place + 1 + 1) (row (place + 1) - 128)) = 1 + (row (place + 1) - 128)
  · rw [if_pos h5] at h; cases h
  rw [if_neg h5] at h
  have h := Sum.inr.inj h
  subst h
  have hn := num16 hrow (p := place + 1 + 1) (k := row (place + 1) - 128) (by omega)
  refine ⟨?_, ?_, ?_⟩
  · show place + 1 < place + 1 + (row (place + 1) - 128) + 1
    omega
  · show place + 1 + (row (place + 1) - 128) + 1 ≤ L
    omega
  · simpa using hn
theorem conS_none {tag : Nat} {row : Nat → Nat} {a n L place : Nat} (h : conS tag row a n L place = none) : n ≤ L - a ∧ okC tag row a n = true := by
  unfold conS at h
  by_cases h1 : L - a < n
  · rw [if_pos h1] at h; cases h
  rw [if_neg h1] at h
  by_cases h2 : ¬ okC tag row a n = true
  · rw [if_pos h2] at h; cases h
  · exact ⟨by omega, Classical.byContradiction h2⟩
theorem valS_ok {row : Nat → Nat} (hrow : ∀ j, row j < 256) {rs nd lv place : Nat} {ar st ln : Nat → Nat} {x : Nat × Nat} (h : valS row rs nd lv ar st ln place = .inr x) :
    place < rs ∧ isId (nI (row place)) ∧ nd < 64 ∧ lv < 16 ∧ place + 1 < x.2 ∧ x.2 + x.1 ≤ limN rs lv ar st ln ∧ x.1 < 65536 ∧ okC (row place) row x.2 x.1 = true := by
  unfold valS at h
  cases h1 : idS row rs nd lv place with
  | some e => rw [h1] at h; cases h
  | none =>
    rw [h1] at h
    cases h2 : lenS row (limN rs lv ar st ln) lv rs place with
    | inl e => rw [h2] at h; cases h
    | inr y =>
      rw [h2] at h
      cases h3 : conS (row place) row y.2 y.1 (limN rs lv ar st ln) place with
      | some e => simp only [h3] at h; cases h
      | none =>
        simp only [h3] at h
        cases h
        obtain ⟨a1, a2, a3, a4⟩ := idS_none h1
        obtain ⟨b1, b2, b3⟩ := lenS_ok hrow h2
        obtain ⟨c1, c2⟩ := conS_none h3
        exact ⟨a1, a2, a3, a4, b1, by omega, b3, c2⟩
/-- the state while a row is read: the place, the nodes' number, the level, identifiers, starts, lengths, what is around, parents -/
abbrev PS : Type := Nat × Nat × Nat × (Nat → Nat) × (Nat → Nat) × (Nat → Nat) × (Nat → Nat) × (Nat → Int32)
def nxA (row : Nat → Nat) (place nd lv : Nat) (ar : Nat → Nat) : Nat → Nat := if row place = 48 then va_up ar lv nd else ar
def nxL (row : Nat → Nat) (place lv : Nat) : Nat := if row place = 48 then lv + 1 else lv
def nxP (row : Nat → Nat) (place : Nat) (x : Nat × Nat) : Nat := if row place = 48 then x.2 else x.2 + x.1
def nxV (row : Nat → Nat) (place nd lv : Nat) (st ln ar : Nat → Nat) (x : Nat × Nat) : Nat := popN (va_up st nd x.2) (va_up ln nd x.1) (nxA row place nd lv ar) (nxP row place x) (nxL row place lv)
def nxS (row : Nat → Nat) (place nd lv : Nat) (tg st ln ar : Nat → Nat) (pa : Nat → Int32) (x : Nat × Nat) : PS :=
  (nxP row place x, nd + 1, nxV row place nd lv st ln ar x, va_up tg nd (row place), va_up st nd x.2, va_up ln nd x.1, nxA row place nd lv ar, upd pa nd (parI lv ar))
def runS (row : Nat → Nat) (rs : Nat) : Nat → PS → (Int32 × Int32) ⊕ PS
  | 0, s => .inr s
  | f + 1, (place, nd, lv, tg, st, ln, ar, pa) => match valS row rs nd lv ar st ln place with
    | .inl e => .inl e
    | .inr x => if nxV row place nd lv st ln ar x = 0 then (if nxP row place x < rs then .inl (-6, nI (nxP row place x)) else .inr (nxS row place nd lv tg st ln ar pa x)) else runS row rs f (nxS row place nd lv tg st ln ar pa x)
theorem PInv.next {row : Nat → Nat} (hrow : ∀ j, row j < 256) {rs place nd lv : Nat} {tg st ln ar : Nat → Nat} {x : Nat × Nat} (hrs : rs ≤ 300) (h : PInv rs place nd lv tg st ln ar) (hv : valS row rs nd lv ar st ln place = .inr x) :
    PInv rs (nxP row place x) (nd + 1) (nxV row place nd lv st ln ar x) (va_up tg nd (row place)) (va_up st nd x.2) (va_up ln nd x.1) (nxA row place nd lv ar) := by
  obtain ⟨v1, v2, v3, v4, v5, v6, v7, v8⟩ := valS_ok hrow hv
  have hlim := h.lim
  obtain ⟨h1, h2, h3, h4, h5, h6, h7, h8, h9, h10, h11⟩ := h
  have hA : ∀ j, nxA row place nd lv ar j < 64 := by
    intro j
    unfold nxA
    split
    · exact up_lt h7 v3 j
    · exact h7 j
  have hA2 : ∀ j, j < nxL row place lv → nxA row place nd lv ar j < nd + 1 := by
    intro j hj
    unfold nxA
    unfold nxL at hj
    split at hj
    · rename_i q
      rw [if_pos q]
      by_cases e : j = lv
      · rw [e, up_eq]; omega
      · rw [up_ne _ _ e]
        have := h8 j (by omega)
        omega
    · rename_i q
      rw [if_neg q]
      have := h8 j hj
      omega
  -- ends of what is around, behind the new node
  have hE : ∀ j, j < lv → va_up st nd x.2 (ar j) + va_up ln nd x.1 (ar j) = st (ar j) + ln (ar j) := by
    intro j hj
    have := h8 j hj
    rw [up_ne st x.2 (by omega), up_ne ln x.1 (by omega)]
  have hlimE : 0 < lv → limN rs lv ar st ln = st (ar (lv - 1)) + ln (ar (lv - 1)) := fun q => by
    unfold limN
    rw [if_neg (by omega)]
  have hN : ∀ j, j + 1 < nxL row place lv → va_up st nd x.2 (nxA row place nd lv ar (j + 1)) + va_up ln nd x.1 (nxA row place nd lv ar (j + 1)) ≤ va_up st nd x.2 (nxA row place nd lv ar j) + va_up ln nd x.1 (nxA row place nd lv ar j) := by
    intro j hj
    unfold nxA
    unfold nxL at hj
    split at hj
    · rename_i q
      rw [if_pos q]
      rw [up_ne ar nd (show j ≠ lv by omega), hE j (by omega)]
      by_cases e : j + 1 = lv
      · rw [e, up_eq, up_eq, up_eq]
        have := hlimE (by omega)
        rw [← e] at this
        simp only [Nat.add_sub_cancel] at this
        rw [← e] at v6
        omega
      · rw [up_ne ar nd e, hE (j + 1) (by omega)]
        exact h10 j (by omega)
    · rename_i q
      rw [if_neg q, hE j (by omega), hE (j + 1) hj]
      exact h10 j hj
  have hT : 0 < nxL row place lv → nxP row place x ≤ va_up st nd x.2 (nxA row place nd lv ar (nxL row place lv - 1)) + va_up ln nd x.1 (nxA row place nd lv ar (nxL row place lv - 1)) := by
    unfold nxL nxP nxA
    split
    · intro _
      rw [Nat.add_sub_cancel, up_eq, up_eq, up_eq]
      omega
    · intro q
      rw [hE _ (by omega)]
      have := hlimE q
      omega
  have hT2 : ∀ k j, nxL row place lv = j + 1 + k → nxP row place x ≤ va_up st nd x.2 (nxA row place nd lv ar j) + va_up ln nd x.1 (nxA row place nd lv ar j) := by
    intro k
    induction k with
    | zero =>
      intro j hj
      have := hT (by omega)
      rw [hj] at this
      exact this
    | succ k ih =>
      intro j hj
      exact Nat.le_trans (ih (j + 1) (by omega)) (hN j (by omega))
  have hVle : nxV row place nd lv st ln ar x ≤ nxL row place lv := popN_le _ _ _ _ _
  have hLle : nxL row place lv ≤ 16 := by unfold nxL; split <;> omega
  have hPle : nxP row place x ≤ rs := by unfold nxP; split <;> omega
  refine ⟨by omega, by omega, hPle, up_lt h4 (hrow _), up_lt h5 (by omega), up_lt h6 v7, hA, fun j hj => hA2 j (by omega), ?_, fun j hj => hN j (by omega), ?_⟩
  · intro j hj
    by_cases e : j = nd
    · rw [e, up_eq, up_eq]; omega
    · rw [up_ne st x.2 e, up_ne ln x.1 e]
      exact h9 j (by omega)
  · intro q
    have hne := popN_ne (va_up st nd x.2) (va_up ln nd x.1) (nxA row place nd lv ar) (nxP row place x) (nxL row place lv) q
    have hle := hT2 (nxL row place lv - nxV row place nd lv st ln ar x) (nxV row place nd lv st ln ar x - 1) (by omega)
    exact Nat.lt_of_le_of_ne hle (fun z => hne z.symm)
theorem run_err {row : Nat → Nat} {rs f place nd lv : Nat} {tg st ln ar : Nat → Nat} {pa : Nat → Int32} {x : Int32 × Int32} (h : valS row rs nd lv ar st ln place = .inl x) : runS row rs (f + 1) (place, nd, lv, tg, st, ln, ar, pa) = .inl x := by
  simp only [runS, h]
theorem run_go {row : Nat → Nat} {rs f place nd lv : Nat} {tg st ln ar : Nat → Nat} {pa : Nat → Int32} {x : Nat × Nat} (h : valS row rs nd lv ar st ln place = .inr x) (h0 : ¬ nxV row place nd lv st ln ar x = 0) : runS row rs (f + 1) (place, nd, lv, tg, st, ln, ar, pa) = runS row rs f (nxS row place nd lv tg st ln ar pa x) := by
  simp only [runS, h, if_neg h0]
theorem run_end {row : Nat → Nat} {rs f place nd lv : Nat} {tg st ln ar : Nat → Nat} {pa : Nat → Int32} {x : Nat × Nat} (h : valS row rs nd lv ar st ln place = .inr x) (h0 : nxV row place nd lv st ln ar x = 0) (h1 : nxP row place x < rs) : runS row rs (f + 1) (place, nd, lv, tg, st, ln, ar, pa) = .inl (-6, nI (nxP row place x)) := by
  simp only [runS, h, if_pos h0, if_pos h1]
theorem run_ok {row : Nat → Nat} {rs f place nd lv : Nat} {tg st ln ar : Nat → Nat} {pa : Nat → Int32} {x : Nat × Nat} (h : valS row rs nd lv ar st ln place = .inr x) (h0 : nxV row place nd lv st ln ar x = 0) (h1 : ¬ nxP row place x < rs) : runS row rs (f + 1) (place, nd, lv, tg, st, ln, ar, pa) = .inr (nxS row place nd lv tg st ln ar pa x) := by
  simp only [runS, h, if_pos h0, if_neg h1]
theorem PInv.start {rs : Nat} {tg st ln ar : Nat → Nat} (htg : ∀ j, tg j < 256) (hst : ∀ j, st j < 1000) (hln : ∀ j, ln j < 65536) (har : ∀ j, ar j < 64) : PInv rs 0 0 0 tg st ln ar :=
  ⟨by omega, by omega, by omega, htg, hst, hln, har, fun j hj => absurd hj (by omega), fun j hj => absurd hj (by omega), fun j hj => absurd hj (by omega), fun h => absurd h (by omega)⟩
theorem limN_up {rs lv nd : Nat} {ar st ln : Nat → Nat} (h : ∀ j, j < lv → ar j < nd) (a n : Nat) : limN rs lv ar (va_up st nd a) (va_up ln nd n) = limN rs lv ar st ln := by
  unfold limN
  split
  · rfl
  · have := h (lv - 1) (by omega)
    rw [up_ne st a (by omega), up_ne ln n (by omega)]
