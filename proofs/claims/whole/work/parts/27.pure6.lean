theorem ref_step {p b : Nat} (hp : p ≤ 1000000000000) (hb : b < 256) : lN 128 * lN p + (nI b - nI b / nI 128 * nI 128).toInt64 = lN (p * 128 + b % 128) := by
  rw [pk_rem (a := b) (d := 128) (by omega) (by decide) (by decide), nI_l (by omega), lN_mul, lN_add, Nat.mul_comm]
/-- the reference's number of a part: right up to 10^12, above it only known to be above -/
def capR (v t : Nat) : Prop := v ≤ 128000000000127 ∧ (t ≤ 1000000000000 → v = t) ∧ (1000000000000 < t → 1000000000000 < v)
theorem capR_0 : capR 0 0 := ⟨by omega, fun _ => rfl, fun h => by omega⟩
theorem capR_keep {v t x : Nat} (h : capR v t) (hv : 1000000000000 < v) : capR v (t * 128 + x) := by
  obtain ⟨h1, h2, h3⟩ := h
  refine ⟨h1, fun q => ?_, fun _ => hv⟩
  have := h2 (by omega)
  omega
theorem capR_go {v t x : Nat} (h : capR v t) (hv : v ≤ 1000000000000) (hx : x < 128) : capR (v * 128 + x) (t * 128 + x) := by
  obtain ⟨h1, h2, h3⟩ := h
  have ht : t ≤ 1000000000000 := Nat.not_lt.mp (fun q => by have := h3 q; omega)
  have e := h2 ht
  subst e
  exact ⟨by omega, fun _ => rfl, fun q => q⟩
theorem capR_fst {v t : Nat} (h : capR v t) : fst1 v = fst1 t := by
  obtain ⟨h1, h2, h3⟩ := h
  by_cases q : t ≤ 1000000000000
  · rw [h2 q]
  · have := h3 (by omega)
    unfold fst1
    rw [if_neg (by omega), if_neg (by omega), if_neg (by omega), if_neg (by omega)]
theorem arcR_of {k v t : Nat} (h : capR v t) : arcR k (some t) = if 2147483647 < arcV k v then -2 else nI (arcV k v) := by
  have hf := capR_fst h
  obtain ⟨h1, h2, h3⟩ := h
  show (if 2147483647 < arcV k t then -2 else nI (arcV k t)) = _
  by_cases q : t ≤ 1000000000000
  · rw [h2 q]
  · have h4 := h3 (by omega)
    have l1 := fst1_le t
    have l2 := fst1_le v
    unfold arcV
    by_cases k0 : k = 0
    · rw [if_pos k0, if_pos k0, hf]
    · rw [if_neg k0, if_neg k0]
      by_cases k1 : k = 1
      · rw [if_pos k1, if_pos k1, if_pos (by omega), if_pos (by omega)]
      · rw [if_neg k1, if_neg k1, if_pos (by omega), if_pos (by omega)]
