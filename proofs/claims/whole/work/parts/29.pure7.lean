theorem toI_cond (a : Int32) : a.toInt = if 2 * a.toBitVec.toNat < 2 ^ 32 then (a.toBitVec.toNat : Int) else (a.toBitVec.toNat : Int) - 2 ^ 32 := by
  have h := BitVec.toInt_eq_toNat_cond a.toBitVec
  exact h
theorem fit_A (v : Int32) : (v <<< (nI 8 &&& 31)) >>> (nI 8 &&& 31) = v ↔ v >>> (nI 23 &&& 31) = v >>> (nI 31 &&& 31) := by
  have hn := v.toBitVec.isLt
  have e2 := pk_shl v (nI 8 &&& 31) 8 (by decide)
  rw [← Int32.toInt_inj, ← Int32.toInt_inj, pk_shr (v <<< (nI 8 &&& 31)) _ 8 (by decide), pk_shr v _ 23 (by decide), pk_shr v _ 31 (by decide)]
  simp only [Int.shiftRight_eq_div_pow]
  have t1 := toI_cond v
  have t2 := toI_cond (v <<< (nI 8 &&& 31))
  rw [e2] at t2
  rw [t1, t2]
  generalize v.toBitVec.toNat = n at *
  split <;> split <;> omega
theorem fit_B (v : Int32) : (v <<< (nI 16 &&& 31)) >>> (nI 16 &&& 31) = v ↔ v >>> (nI 15 &&& 31) = v >>> (nI 31 &&& 31) := by
  have hn := v.toBitVec.isLt
  have e2 := pk_shl v (nI 16 &&& 31) 16 (by decide)
  rw [← Int32.toInt_inj, ← Int32.toInt_inj, pk_shr (v <<< (nI 16 &&& 31)) _ 16 (by decide), pk_shr v _ 15 (by decide), pk_shr v _ 31 (by decide)]
  simp only [Int.shiftRight_eq_div_pow]
  have t1 := toI_cond v
  have t2 := toI_cond (v <<< (nI 16 &&& 31))
  rw [e2] at t2
  rw [t1, t2]
  generalize v.toBitVec.toNat = n at *
  split <;> split <;> omega
theorem fit_C (v : Int32) : (v <<< (nI 24 &&& 31)) >>> (nI 24 &&& 31) = v ↔ v >>> (nI 7 &&& 31) = v >>> (nI 31 &&& 31) := by
  have hn := v.toBitVec.isLt
  have e2 := pk_shl v (nI 24 &&& 31) 24 (by decide)
  rw [← Int32.toInt_inj, ← Int32.toInt_inj, pk_shr (v <<< (nI 24 &&& 31)) _ 24 (by decide), pk_shr v _ 7 (by decide), pk_shr v _ 31 (by decide)]
  simp only [Int.shiftRight_eq_div_pow]
  have t1 := toI_cond v
  have t2 := toI_cond (v <<< (nI 24 &&& 31))
  rw [e2] at t2
  rw [t1, t2]
  generalize v.toBitVec.toNat = n at *
  split <;> split <;> omega
theorem fit_mono (v : Int32) : (v >>> (nI 7 &&& 31) = v >>> (nI 31 &&& 31) → v >>> (nI 15 &&& 31) = v >>> (nI 31 &&& 31)) ∧ (v >>> (nI 15 &&& 31) = v >>> (nI 31 &&& 31) → v >>> (nI 23 &&& 31) = v >>> (nI 31 &&& 31)) := by
  have h1 := Int32.toInt_lt v
  have h2 := Int32.le_toInt v
  simp only [← Int32.toInt_inj, pk_shr v _ 7 (show ((nI 7 &&& 31).toBitVec.smod 32).toNat = 7 by decide), pk_shr v _ 15 (show ((nI 15 &&& 31).toBitVec.smod 32).toNat = 15 by decide), pk_shr v _ 23 (show ((nI 23 &&& 31).toBitVec.smod 32).toNat = 23 by decide), pk_shr v _ 31 (show ((nI 31 &&& 31).toBitVec.smod 32).toNat = 31 by decide), Int.shiftRight_eq_div_pow]
  constructor <;> intro h <;> omega
theorem intSz_4 {v : Int32} (h : ¬ (v <<< (nI 8 &&& 31)) >>> (nI 8 &&& 31) = v) : intSz v = 4 := by
  have m := fit_mono v
  rw [fit_A] at h
  unfold intSz
  rw [if_neg (fun z => h (m.2 (m.1 z))), if_neg (fun z => h (m.2 z)), if_neg h]
theorem intSz_3 {v : Int32} (h8 : (v <<< (nI 8 &&& 31)) >>> (nI 8 &&& 31) = v) (h : ¬ (v <<< (nI 16 &&& 31)) >>> (nI 16 &&& 31) = v) : intSz v = 3 := by
  have m := fit_mono v
  rw [fit_B] at h
  rw [fit_A] at h8
  unfold intSz
  rw [if_neg (fun z => h (m.1 z)), if_neg h, if_pos h8]
theorem intSz_2 {v : Int32} (h16 : (v <<< (nI 16 &&& 31)) >>> (nI 16 &&& 31) = v) (h : ¬ (v <<< (nI 24 &&& 31)) >>> (nI 24 &&& 31) = v) : intSz v = 2 := by
  rw [fit_C] at h
  rw [fit_B] at h16
  unfold intSz
  rw [if_neg h, if_pos h16]
theorem intSz_1 {v : Int32} (h : (v <<< (nI 24 &&& 31)) >>> (nI 24 &&& 31) = v) : intSz v = 1 := by
  rw [fit_C] at h
  unfold intSz
  rw [if_pos h]
theorem shr0 {v s : Int32} {k : Nat} (hs : (s.toBitVec.smod 32).toNat = k) (hv : ¬ v < 0) : v >>> s ≤ 0 ↔ v >>> s = 0 := by
  have hv : 0 ≤ v.toInt := by
    rw [Int32.lt_iff_toInt_lt] at hv
    exact Int.not_lt.mp hv
  rw [← Int32.toInt_inj, Int32.le_iff_toInt_le, pk_shr v s k hs, Int.shiftRight_eq_div_pow]
  have : 0 ≤ v.toInt / ((2 ^ k : Nat) : Int) := Int.ediv_nonneg hv (Int.natCast_nonneg _)
  show _ ≤ (0 : Int) ↔ _ = (0 : Int)
  omega
