/-! what writing is, without a machine -/
theorem id_of {x : Int32} (h : isId x) : x = nI x.toNatClampNeg ∧ x.toNatClampNeg < 256 := by
  have h0 : ¬ x < 0 := by
    simp only [isId, Int32.lt_iff_toInt_lt, Int32.le_iff_toInt_le, show (nI 1).toInt = 1 from rfl, show (nI 6).toInt = 6 from rfl, show (0 : Int32).toInt = 0 from rfl] at h ⊢
    rcases h with h | h
    · omega
    · rw [h]; decide
  refine ⟨cl_of h0, ?_⟩
  rcases h with h | h
  · have := cl_le (n := 6) h0 (by decide) (fun q => by
      have h2 := h.2
      rw [Int32.le_iff_toInt_le] at h2
      rw [Int32.lt_iff_toInt_lt] at q
      omega)
    omega
  · rw [h]; decide
abbrev canH (dp wz : Nat) (bt op : Nat → Nat) : Prop := (dp = 0 ∧ wz = 0) ∨ (0 < dp ∧ bt (op (dp - 1)) = 48)
def intSz (v : Int32) : Nat := if v >>> (nI 7 &&& 31) = v >>> (nI 31 &&& 31) then 1 else if v >>> (nI 15 &&& 31) = v >>> (nI 31 &&& 31) then 2 else if v >>> (nI 23 &&& 31) = v >>> (nI 31 &&& 31) then 3 else 4
def partSz (v : Int32) : Nat := if v >>> (nI 7 &&& 31) = 0 then 1 else if v >>> (nI 14 &&& 31) = 0 then 2 else if v >>> (nI 21 &&& 31) = 0 then 3 else if v >>> (nI 28 &&& 31) = 0 then 4 else 5
theorem intSz_le (v : Int32) : 1 ≤ intSz v ∧ intSz v ≤ 4 := by unfold intSz; (repeat' split) <;> omega
theorem partSz_le (v : Int32) : 1 ≤ partSz v ∧ partSz v ≤ 5 := by unfold partSz; (repeat' split) <;> omega
def byN (v : Int32) (k : Nat) : Nat := (v >>> (nI (8 * k) &&& 31)).toBitVec.toNat % 256
def b7N (v : Int32) (k : Nat) : Nat := (v >>> (nI (7 * k) &&& 31)).toBitVec.toNat % 128
def bpN (v : Int32) (k : Nat) : Nat := if k = 0 then b7N v k else b7N v k + 128
theorem byN_lt (v : Int32) (k : Nat) : byN v k < 256 := Nat.mod_lt _ (by decide)
theorem b7N_lt (v : Int32) (k : Nat) : b7N v k < 128 := Nat.mod_lt _ (by decide)
theorem bpN_lt (v : Int32) (k : Nat) : bpN v k < 256 := by
  have := b7N_lt v k
  unfold bpN
  split <;> omega
theorem byN_eq (v : Int32) (k : Nat) : v >>> (nI (8 * k) &&& 31) &&& nI 255 = nI (byN v k) := pk_and _ 8 (by decide)
theorem b7N_eq (v : Int32) (k : Nat) : v >>> (nI (7 * k) &&& 31) &&& nI 127 = nI (b7N v k) := pk_and _ 7 (by decide)
theorem or128 : ∀ s, s < 128 → nI s ||| nI 128 = nI (s + 128) := by decide +kernel
/-- bytes appended: of n bytes, B (n - 1) first -/
def pB (f : Nat → Nat) (w : Nat) (B : Nat → Nat) (n : Nat) : Nat → Nat → Nat
  | 0 => f
  | i + 1 => va_up (pB f w B n i) (w + i) (B (n - 1 - i))
theorem pB_step (f : Nat → Nat) (w : Nat) (B : Nat → Nat) {n k : Nat} (hk : k + 1 ≤ n) : va_up (pB f w B n (n - (k + 1))) (w + (n - (k + 1))) (B k) = pB f w B n (n - k) := by
  rw [show n - k = (n - (k + 1)) + 1 by omega]
  show _ = va_up (pB f w B n (n - (k + 1))) (w + (n - (k + 1))) (B (n - 1 - (n - (k + 1))))
  rw [show n - 1 - (n - (k + 1)) = k by omega]
theorem pB_lt {f : Nat → Nat} {w : Nat} {B : Nat → Nat} {n : Nat} (hf : ∀ j, f j < 256) (hB : ∀ k, B k < 256) : ∀ i j, pB f w B n i j < 256
  | 0, j => hf j
  | i + 1, j => up_lt (pB_lt hf hB i) (hB _) j
/-- byte i of a length n that is told in z bytes -/
def lnB (n z i : Nat) : Nat := if z = 1 then n else if i = 0 then 128 + (z - 1) else n / 256 ^ (z - 1 - i) % 256
theorem nI_dec {i : Nat} (h : 1 ≤ i) : nI i + Int32.ofInt (-1) = nI (i - 1) := by
  rw [mI_dec]
  obtain ⟨j, rfl⟩ : ∃ j, i = j + 1 := ⟨i - 1, by omega⟩
  rfl
theorem shr_and {n k : Nat} (hn : n < 2 ^ 31) (s : Int32) (hs : (s.toBitVec.smod 32).toNat = k) : nI n >>> s &&& nI 255 = nI (n / 2 ^ k % 256) := by
  rw [pk_shrN hn s k hs]
  exact pk_andN (n := n / 2 ^ k) (Nat.lt_of_le_of_lt (Nat.div_le_self _ _) (by omega)) 8 (by decide)
def begC (tag : Int32) (dp wz : Nat) (bt op : Nat → Nat) : Int32 := if ¬ isId tag then -1 else if ¬ canH dp wz bt op then -2 else if 16 ≤ dp ∨ wz = 300 then -3 else 0
def pbC (b : Int32) (dp wz : Nat) (bt op : Nat → Nat) : Int32 := if ¬ isB b then -1 else if dp = 0 ∨ bt (op (dp - 1)) = 48 then -2 else if wz = 300 then -3 else 0
def piC (v : Int32) (dp wz : Nat) (bt op : Nat → Nat) : Int32 := if dp = 0 ∨ ¬ bt (op (dp - 1)) = 2 ∨ ¬ wz = op (dp - 1) + 1 then -2 else if 300 < wz + intSz v then -3 else 0
def ppC (v : Int32) (dp wz : Nat) (bt op : Nat → Nat) : Int32 := if v < 0 then -1 else if dp = 0 ∨ ¬ bt (op (dp - 1)) = 6 then -2 else if 300 < wz + partSz v then -3 else 0
/-- the contents of the innermost open value: their number, and whether they keep to their rule -/
abbrev enN (dp wz : Nat) (op : Nat → Nat) : Nat := wz - (op (dp - 1) + 1)
abbrev enK (dp wz : Nat) (bt op : Nat → Nat) : Bool := okC (bt (op (dp - 1))) bt (op (dp - 1) + 1) (enN dp wz op)
def enC (dp wz : Nat) (bt op : Nat → Nat) : Int32 := if dp = 0 then -2 else if ¬ enK dp wz bt op = true then -4 else if 300 < wz + lenSz (enN dp wz op) then -3 else 0
/-- behind a value that was closed: what was below it, its length, its contents -/
def enB (dp wz : Nat) (bt op bt2 : Nat → Nat) : Prop := (∀ j, j < op (dp - 1) + 1 → bt2 j = bt j) ∧ (∀ i, i < lenSz (enN dp wz op) → bt2 (op (dp - 1) + 1 + i) = lnB (enN dp wz op) (lenSz (enN dp wz op)) i) ∧ (∀ j, op (dp - 1) + 1 ≤ j → j < wz → bt2 (j + lenSz (enN dp wz op)) = bt j)
