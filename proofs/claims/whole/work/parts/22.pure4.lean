/-! for the reference -/
def obR (f : Nat → Nat) (n k : Nat) : Bool := decide (0 < n) && obPre f 0 k && (decide (k < n) || decide (f (n - 1) < 128))
theorem obR_step {f : Nat → Nat} {n k : Nat} (h : k < n) : obR f n (k + 1) = true ↔ (obR f n k = true ∧ ¬ ((k = 0 ∨ f (k - 1) < 128) ∧ f k = 128) ∧ (k < n - 1 ∨ f k < 128)) := by
  have e : obPre f 0 (k + 1) = (obPre f 0 k && !(obBeg f 0 k && decide (f k = 128))) := by
    show (obPre f 0 k && !(obBeg f 0 k && decide (f (0 + k) = 128))) = _
    rw [Nat.zero_add]
  have e2 : k + 1 < n ∨ k = n - 1 := by omega
  unfold obR
  rw [e]
  simp only [obBeg, Nat.zero_add, Bool.and_eq_true, Bool.or_eq_true, decide_eq_true_eq, Bool.not_eq_true', Bool.and_eq_false_iff, decide_eq_false_iff_not]
  rcases e2 with e2 | e2
  · constructor
    · rintro ⟨⟨h1, h2, h3⟩, h4⟩
      exact ⟨⟨⟨h1, h2⟩, Or.inl h⟩, fun q => by rcases h3 with h3 | h3; exact h3 q.1; exact h3 q.2, Or.inl (by omega)⟩
    · rintro ⟨⟨⟨h1, h2⟩, h3⟩, h4, h5⟩
      refine ⟨⟨h1, h2, ?_⟩, Or.inl e2⟩
      by_cases q : k = 0 ∨ f (k - 1) < 128
      · exact Or.inr (fun z => h4 ⟨q, z⟩)
      · exact Or.inl q
  · subst e2
    constructor
    · rintro ⟨⟨h1, h2, h3⟩, h4⟩
      exact ⟨⟨⟨h1, h2⟩, Or.inl h⟩, fun q => by rcases h3 with h3 | h3; exact h3 q.1; exact h3 q.2, Or.inr (by rcases h4 with h4 | h4; omega; exact h4)⟩
    · rintro ⟨⟨⟨h1, h2⟩, h3⟩, h4, h5⟩
      refine ⟨⟨h1, h2, ?_⟩, Or.inr (by rcases h5 with h5 | h5; omega; exact h5)⟩
      by_cases q : n - 1 = 0 ∨ f (n - 1 - 1) < 128
      · exact Or.inr (fun z => h4 ⟨q, z⟩)
      · exact Or.inl q
theorem obR_end {f : Nat → Nat} {n : Nat} : obR f n n = okObj f 0 n := by
  unfold obR okObj
  simp
theorem okC_eq {t : Nat} {f g : Nat → Nat} {a b n : Nat} (h : ∀ j, j < n → f (a + j) = g (b + j)) : okC t f a n = okC t g b n := by
  have h0 : 0 < n → f a = g b := fun q => h 0 q
  have hl : 0 < n → f (a + n - 1) = g (b + n - 1) := fun q => by
    have := h (n - 1) (by omega)
    rw [show a + (n - 1) = a + n - 1 by omega, show b + (n - 1) = b + n - 1 by omega] at this
    exact this
  have e1 : okBool f a n = okBool g b n := by
    unfold okBool
    by_cases q : n = 1
    · rw [h0 (by omega)]
    · simp [q]
  have e2 : okInt f a n = okInt g b n := by
    unfold okInt
    by_cases q : 1 < n
    · rw [h0 (by omega), h 1 q]
    · simp [q]
  have e3 : okBits f a n = okBits g b n := by
    unfold okBits
    by_cases q : 0 < n
    · rw [h0 q, hl q]
    · simp [q]
  have e4 : ∀ k, k ≤ n → obPre f a k = obPre g b k := by
    intro k
    induction k with
    | zero => intro _; rfl
    | succ k ih =>
      intro hk
      have hb : obBeg f a k = obBeg g b k := by
        unfold obBeg
        by_cases q : k = 0
        · simp [q]
        · have := h (k - 1) (by omega)
          rw [show a + (k - 1) = a + k - 1 by omega, show b + (k - 1) = b + k - 1 by omega] at this
          rw [this]
      show (obPre f a k && !(obBeg f a k && decide (f (a + k) = 128))) = (obPre g b k && !(obBeg g b k && decide (g (b + k) = 128)))
      rw [ih (by omega), hb, h k (by omega)]
  have e5 : okObj f a n = okObj g b n := by
    unfold okObj
    by_cases q : 0 < n
    · rw [e4 n (Nat.le_refl n), hl q]
    · simp [q]
  unfold okC
  rw [e1, e2, e3, e5]
theorem lenSz2 {v : Nat} (h : v < 256) : lenSz v = 2 ↔ 128 ≤ v := by unfold lenSz; (repeat' split) <;> omega
theorem lenSz3 (v : Nat) : lenSz v = 3 ↔ 256 ≤ v := by unfold lenSz; (repeat' split) <;> omega
theorem obR_next {f : Nat → Nat} {n k rt rt2 : Nat} (h : k < n) (hrt : rt = if obR f n k = true then 1 else 0) (hc : (rt2 = 1 ∧ ¬ rt = 0 ∧ ¬ ((k = 0 ∨ f (k - 1) < 128) ∧ f k = 128) ∧ (k < n - 1 ∨ f k < 128)) ∨ (rt2 = 0 ∧ (rt = 0 ∨ ((k = 0 ∨ f (k - 1) < 128) ∧ f k = 128) ∨ ¬ (k < n - 1 ∨ f k < 128)))) : rt2 = if obR f n (k + 1) = true then 1 else 0 := by
  have hs := obR_step (f := f) (n := n) (k := k) h
  by_cases q : obR f n k = true
  · rw [if_pos q] at hrt
    rcases hc with hc | hc
    · rw [if_pos (hs.mpr ⟨q, hc.2.2⟩)]; exact hc.1
    · rw [if_neg (fun z => by have z1 := (hs.mp z).2; omega)]; exact hc.1
  · rw [if_neg q] at hrt
    rw [if_neg (fun z => q (hs.mp z).1)]
    omega
theorem nI_ne1 {n : Nat} (h : n < 2 ^ 31) : ¬ nI n = -1 := fun z => by
  have z1 := congrArg Int32.toInt z
  rw [nI_toInt h, show (-1 : Int32).toInt = -1 from rfl] at z1
  omega
