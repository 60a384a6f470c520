/-! parts and arcs of an OBJECT -/
def partS (f : Nat → Nat) (e : Nat) : Nat → Nat → Nat → Nat → Option Nat
  | 0, _, _, _ => none
  | m + 1, cur, cnt, idx => if f (e - (m + 1)) < 128 then (if cnt = idx then some (cur * 128 + f (e - (m + 1)) % 128) else partS f e m 0 (cnt + 1) idx) else partS f e m (cur * 128 + f (e - (m + 1)) % 128) cnt idx
theorem partS_at {f : Nat → Nat} {e i cur cnt idx : Nat} (hi : i < e) : partS f e (e - i) cur cnt idx = if f i < 128 then (if cnt = idx then some (cur * 128 + f i % 128) else partS f e (e - (i + 1)) 0 (cnt + 1) idx) else partS f e (e - (i + 1)) (cur * 128 + f i % 128) cnt idx := by
  obtain ⟨m, hm⟩ : ∃ m, e - i = m + 1 := ⟨e - i - 1, by omega⟩
  rw [hm, show e - (i + 1) = m by omega]
  show (if f (e - (m + 1)) < 128 then _ else _) = _
  rw [show e - (m + 1) = i by omega]
def fst1 (t : Nat) : Nat := if t < 40 then 0 else if t < 80 then 1 else 2
def arcV (k t : Nat) : Nat := if k = 0 then fst1 t else if k = 1 then t - 40 * fst1 t else t
def arcR (k : Nat) : Option Nat → Int32
  | none => -1
  | some t => if 2147483647 < arcV k t then -2 else nI (arcV k t)
def oidS (f : Nat → Nat) (a n k : Nat) : Int32 := arcR k (partS f (a + n) n 0 0 (if k < 2 then 0 else k - 1))
def capL : Option Nat → Int64
  | none => -1
  | some t => lN (min t 1099511627776)
theorem fst1_le (t : Nat) : fst1 t ≤ 2 ∧ 40 * fst1 t ≤ t := by
  unfold fst1
  (repeat' split) <;> omega
theorem fst1_cap (t : Nat) : fst1 (min t 1099511627776) = fst1 t := by
  unfold fst1
  (repeat' split) <;> omega
theorem arc_cap (k t : Nat) : arcR k (some t) = if 2147483647 < arcV k (min t 1099511627776) then -2 else nI (arcV k (min t 1099511627776)) := by
  show (if 2147483647 < arcV k t then -2 else nI (arcV k t)) = _
  by_cases h : t ≤ 1099511627776
  · rw [Nat.min_eq_left h]
  · rw [Nat.min_eq_right (by omega)]
    unfold arcV
    by_cases k0 : k = 0
    · rw [if_pos k0, if_pos k0, show fst1 t = fst1 1099511627776 from by unfold fst1; (repeat' split) <;> omega]
    · rw [if_neg k0, if_neg k0]
      have h1 := fst1_le t
      by_cases k1 : k = 1
      · rw [if_pos k1, if_pos k1, if_pos (by omega), if_pos (by decide)]
      · rw [if_neg k1, if_neg k1, if_pos (by omega), if_pos (by decide)]
theorem cl_b (b : Int32) : b.toNatClampNeg < 2147483648 := by
  have h := Int32.toInt_lt b
  have e : b.toNatClampNeg = b.toInt.toNat := rfl
  rw [e]
  omega
theorem lN_or7 {a b : Nat} (ha : a ≤ 1099511627776) (hb : b < 128) : lN (a * 128) ||| lN b = lN (a * 128 + b) := by
  have e : lN (a * 128) ||| lN b = lN (a * 128 ||| b) := by
    apply Int64.toBitVec_inj.1
    show BitVec.ofNat 64 (a * 128) ||| BitVec.ofNat 64 b = BitVec.ofNat 64 (a * 128 ||| b)
    apply BitVec.eq_of_getLsbD_eq
    intro i hi
    simp [hi]
  rw [e]
  have := Nat.two_pow_add_eq_or_of_lt (i := 7) (b := b) hb a
  rw [Nat.mul_comm a 128]
  exact congrArg lN this.symm
theorem lN_shl7 (a : Nat) : lN a <<< ((nI 7).toInt64 &&& 63) = lN (a * 128) := by
  apply Int64.toBitVec_inj.1
  show (lN a).toBitVec <<< ((nI 7).toInt64 &&& 63).toBitVec.smod 64 = BitVec.ofNat 64 (a * 128)
  rw [show ((nI 7).toInt64 &&& 63).toBitVec.smod 64 = 7#64 from by decide]
  show BitVec.ofNat 64 a <<< (7#64) = _
  apply BitVec.eq_of_toNat_eq
  simp [Nat.shiftLeft_eq]
theorem part_step {p b : Nat} (hp : p ≤ 1099511627776) (hb : b < 256) : (if lN 1099511627776 < (lN p <<< ((nI 7).toInt64 &&& 63) ||| (nI b &&& nI 127).toInt64) then lN 1099511627776 else (lN p <<< ((nI 7).toInt64 &&& 63) ||| (nI b &&& nI 127).toInt64)) = lN (min (p * 128 + b % 128) 1099511627776) := by
  have e1 : nI b &&& nI 127 = nI (b % 128) := pk_andN (n := b) (by omega) 7 (by decide)
  rw [lN_shl7, e1, nI_l (n := b % 128) (by omega), lN_or7 hp (by omega)]
  by_cases h : 1099511627776 < p * 128 + b % 128
  · rw [if_pos ((pk_lLT (by omega) (by omega)).mpr h), Nat.min_eq_right (by omega)]
  · rw [if_neg (fun q => h ((pk_lLT (by omega) (by omega)).mp q)), Nat.min_eq_left (by omega)]
theorem min_cap (c x : Nat) : min (min c 1099511627776 * 128 + x) 1099511627776 = min (c * 128 + x) 1099511627776 := by
  omega
theorem lge_t {a b : Nat} (ha : a < 2 ^ 63) (hb : b < 2 ^ 63) (h : 0 ≤ lg_cmp (lN a) (lN b)) : b ≤ a := (pk_lLE hb ha).mp ((lg_cmp_ge _ _).mp h)
theorem lge_f {a b : Nat} (ha : a < 2 ^ 63) (hb : b < 2 ^ 63) (h : ¬ 0 ≤ lg_cmp (lN a) (lN b)) : ¬ b ≤ a := fun q => h ((lg_cmp_ge _ _).mpr ((pk_lLE hb ha).mpr q))
theorem lle_t {a b : Nat} (ha : a < 2 ^ 63) (hb : b < 2 ^ 63) (h : lg_cmp (lN a) (lN b) ≤ 0) : a ≤ b := (pk_lLE ha hb).mp ((lg_cmp_le _ _).mp h)
theorem lle_f {a b : Nat} (ha : a < 2 ^ 63) (hb : b < 2 ^ 63) (h : ¬ lg_cmp (lN a) (lN b) ≤ 0) : ¬ a ≤ b := fun q => h ((lg_cmp_le _ _).mpr ((pk_lLE ha hb).mpr q))
