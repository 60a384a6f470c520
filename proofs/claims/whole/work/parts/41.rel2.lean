theorem nI_neg {z : Nat} (h1 : 2147483648 ≤ z) (h2 : z < 4294967296) : (nI z).toInt = (z : Int) - 4294967296 := by
  have t := toI_cond (nI z)
  rw [pk_tn (by omega), if_neg (by omega)] at t
  exact t
theorem si_1 {f : Nat → Nat} (hf : ∀ j, f j < 256) (a : Nat) : siVal f a 1 = foldI f a (sgI (f a)) 1 := by
  have hX := numN_lt hf a 1
  have hT := numN_top hf a 0
  have hb := hf a
  rw [show (256 : Nat) ^ 1 = 256 from rfl] at hX
  rw [show (256 : Nat) ^ 0 = 1 from rfl, show 0 + 1 = 1 from rfl] at hT
  have hL : siVal f a 1 = (nI (numN f a 1) <<< (nI 24 &&& 31)) >>> (nI 24 &&& 31) := rfl
  have hsh : nI (numN f a 1) <<< (nI 24 &&& 31) = nI (numN f a 1 * 16777216) := pk_shlN (n := numN f a 1) (nI 24 &&& 31) 24 (by decide) (by rw [show (2 : Nat) ^ 24 = 16777216 from rfl]; omega)
  rw [hL, hsh]
  by_cases q : 127 < f a
  · have hs : sgI (f a) = nI 4294967295 := by unfold sgI; rw [if_pos q]; rfl
    have hY : nI (4294967295 * 256 ^ 1 + numN f a 1) = nI (4294967040 + numN f a 1) := by
      rw [nI_mod, show 4294967295 * 256 ^ 1 + numN f a 1 = 2 ^ 32 * 255 + (4294967040 + numN f a 1) by rw [show (256 : Nat) ^ 1 = 256 from rfl, show (2 : Nat) ^ 32 = 4294967296 from rfl]; omega, Nat.mul_add_mod, ← nI_mod]
    rw [hs, fold_num hf a 4294967295 1, hY, ← Int32.toInt_inj, pk_shr _ _ 24 (by decide), nI_neg (by omega) (by omega), nI_neg (by omega) (by omega), Int.shiftRight_eq_div_pow, show (2 : Nat) ^ 24 = 16777216 from rfl]
    omega
  · have hs : sgI (f a) = nI 0 := by unfold sgI; rw [if_neg q]; rfl
    rw [hs, fold_num hf a 0 1, show 0 * 256 ^ 1 + numN f a 1 = numN f a 1 by omega, pk_shrN (n := numN f a 1 * 16777216) (by omega) (nI 24 &&& 31) 24 (by decide), show (2 : Nat) ^ 24 = 16777216 from rfl]
    exact congrArg nI (by omega)
theorem si_2 {f : Nat → Nat} (hf : ∀ j, f j < 256) (a : Nat) : siVal f a 2 = foldI f a (sgI (f a)) 2 := by
  have hX := numN_lt hf a 2
  have hT := numN_top hf a 1
  have hb := hf a
  rw [show (256 : Nat) ^ 2 = 65536 from rfl] at hX
  rw [show (256 : Nat) ^ 1 = 256 from rfl, show 1 + 1 = 2 from rfl] at hT
  have hL : siVal f a 2 = (nI (numN f a 2) <<< (nI 16 &&& 31)) >>> (nI 16 &&& 31) := rfl
  have hsh : nI (numN f a 2) <<< (nI 16 &&& 31) = nI (numN f a 2 * 65536) := pk_shlN (n := numN f a 2) (nI 16 &&& 31) 16 (by decide) (by rw [show (2 : Nat) ^ 16 = 65536 from rfl]; omega)
  rw [hL, hsh]
  by_cases q : 127 < f a
  · have hs : sgI (f a) = nI 4294967295 := by unfold sgI; rw [if_pos q]; rfl
    have hY : nI (4294967295 * 256 ^ 2 + numN f a 2) = nI (4294901760 + numN f a 2) := by
      rw [nI_mod, show 4294967295 * 256 ^ 2 + numN f a 2 = 2 ^ 32 * 65535 + (4294901760 + numN f a 2) by rw [show (256 : Nat) ^ 2 = 65536 from rfl, show (2 : Nat) ^ 32 = 4294967296 from rfl]; omega, Nat.mul_add_mod, ← nI_mod]
    rw [hs, fold_num hf a 4294967295 2, hY, ← Int32.toInt_inj, pk_shr _ _ 16 (by decide), nI_neg (by omega) (by omega), nI_neg (by omega) (by omega), Int.shiftRight_eq_div_pow, show (2 : Nat) ^ 16 = 65536 from rfl]
    omega
  · have hs : sgI (f a) = nI 0 := by unfold sgI; rw [if_neg q]; rfl
    rw [hs, fold_num hf a 0 2, show 0 * 256 ^ 2 + numN f a 2 = numN f a 2 by omega, pk_shrN (n := numN f a 2 * 65536) (by omega) (nI 16 &&& 31) 16 (by decide), show (2 : Nat) ^ 16 = 65536 from rfl]
    exact congrArg nI (by omega)
theorem si_3 {f : Nat → Nat} (hf : ∀ j, f j < 256) (a : Nat) : siVal f a 3 = foldI f a (sgI (f a)) 3 := by
  have hX := numN_lt hf a 3
  have hT := numN_top hf a 2
  have hb := hf a
  rw [show (256 : Nat) ^ 3 = 16777216 from rfl] at hX
  rw [show (256 : Nat) ^ 2 = 65536 from rfl, show 2 + 1 = 3 from rfl] at hT
  have hL : siVal f a 3 = (nI (numN f a 3) <<< (nI 8 &&& 31)) >>> (nI 8 &&& 31) := rfl
  have hsh : nI (numN f a 3) <<< (nI 8 &&& 31) = nI (numN f a 3 * 256) := pk_shlN (n := numN f a 3) (nI 8 &&& 31) 8 (by decide) (by rw [show (2 : Nat) ^ 8 = 256 from rfl]; omega)
  rw [hL, hsh]
  by_cases q : 127 < f a
  · have hs : sgI (f a) = nI 4294967295 := by unfold sgI; rw [if_pos q]; rfl
    have hY : nI (4294967295 * 256 ^ 3 + numN f a 3) = nI (4278190080 + numN f a 3) := by
      rw [nI_mod, show 4294967295 * 256 ^ 3 + numN f a 3 = 2 ^ 32 * 16777215 + (4278190080 + numN f a 3) by rw [show (256 : Nat) ^ 3 = 16777216 from rfl, show (2 : Nat) ^ 32 = 4294967296 from rfl]; omega, Nat.mul_add_mod, ← nI_mod]
    rw [hs, fold_num hf a 4294967295 3, hY, ← Int32.toInt_inj, pk_shr _ _ 8 (by decide), nI_neg (by omega) (by omega), nI_neg (by omega) (by omega), Int.shiftRight_eq_div_pow, show (2 : Nat) ^ 8 = 256 from rfl]
    omega
  · have hs : sgI (f a) = nI 0 := by unfold sgI; rw [if_neg q]; rfl
    rw [hs, fold_num hf a 0 3, show 0 * 256 ^ 3 + numN f a 3 = numN f a 3 by omega, pk_shrN (n := numN f a 3 * 256) (by omega) (nI 8 &&& 31) 8 (by decide), show (2 : Nat) ^ 8 = 256 from rfl]
    exact congrArg nI (by omega)
theorem si_4 {f : Nat → Nat} (hf : ∀ j, f j < 256) (a : Nat) : siVal f a 4 = foldI f a (sgI (f a)) 4 := by
  have hX := numN_lt hf a 4
  have hT := numN_top hf a 3
  have hb := hf a
  rw [show (256 : Nat) ^ 4 = 4294967296 from rfl] at hX
  rw [show (256 : Nat) ^ 3 = 16777216 from rfl, show 3 + 1 = 4 from rfl] at hT
  have hL : siVal f a 4 = (nI (numN f a 4) <<< (nI 0 &&& 31)) >>> (nI 0 &&& 31) := rfl
  have hsh : nI (numN f a 4) <<< (nI 0 &&& 31) = nI (numN f a 4 * 1) := pk_shlN (n := numN f a 4) (nI 0 &&& 31) 0 (by decide) (by rw [show (2 : Nat) ^ 0 = 1 from rfl]; omega)
  rw [hL, hsh]
  by_cases q : 127 < f a
  · have hs : sgI (f a) = nI 4294967295 := by unfold sgI; rw [if_pos q]; rfl
    have hY : nI (4294967295 * 256 ^ 4 + numN f a 4) = nI (0 + numN f a 4) := by
      rw [nI_mod, show 4294967295 * 256 ^ 4 + numN f a 4 = 2 ^ 32 * 4294967295 + (0 + numN f a 4) by rw [show (256 : Nat) ^ 4 = 4294967296 from rfl]; omega, Nat.mul_add_mod, ← nI_mod]
    rw [hs, fold_num hf a 4294967295 4, hY, ← Int32.toInt_inj, pk_shr _ _ 0 (by decide), nI_neg (by omega) (by omega), nI_neg (by omega) (by omega), Int.shiftRight_eq_div_pow, show (2 : Nat) ^ 0 = 1 from rfl]
    omega
  · have hs : sgI (f a) = nI 0 := by unfold sgI; rw [if_neg q]; rfl
    rw [hs, fold_num hf a 0 4, show 0 * 256 ^ 4 + numN f a 4 = numN f a 4 by omega, pk_shrN (n := numN f a 4 * 1) (by omega) (nI 0 &&& 31) 0 (by decide), show (2 : Nat) ^ 0 = 1 from rfl]
    exact congrArg nI (by omega)
theorem si_fold {f : Nat → Nat} (hf : ∀ j, f j < 256) (a : Nat) {n : Nat} (h1 : 1 ≤ n) (h4 : n ≤ 4) : siVal f a n = foldI f a (sgI (f a)) n := by
  rcases (show n = 1 ∨ n = 2 ∨ n = 3 ∨ n = 4 by omega) with rfl | rfl | rfl | rfl
  · exact si_1 hf a
  · exact si_2 hf a
  · exact si_3 hf a
  · exact si_4 hf a
