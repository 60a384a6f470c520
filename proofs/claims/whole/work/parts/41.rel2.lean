theorem si_1 {f : Nat → Nat} (hf : ∀ j, f j < 256) (a : Nat) : siVal f a 1 = foldI f a (sgI (f a)) 1 := by
  have hX := numN_lt hf a 1
  have hT := numN_top hf a 0
  have hb := hf a
  simp only [show (256 : Nat) ^ 1 = 256 from rfl, show (256 : Nat) ^ 0 = 1 from rfl, show 0 + 1 = 1 from rfl] at hX hT
  have e2 := pk_shl (nI (numN f a 1)) (nI 24 &&& 31) 24 (by decide)
  rw [pk_tn (by omega)] at e2
  have hL : siVal f a 1 = (nI (numN f a 1) <<< (nI 24 &&& 31)) >>> (nI 24 &&& 31) := rfl
  rw [hL]
  by_cases q : 127 < f a
  · have hs : sgI (f a) = nI 4294967295 := by unfold sgI; rw [if_pos q]; rfl
    rw [hs, fold_num hf a 4294967295 1, ← Int32.toInt_inj, pk_shr _ _ 24 (by decide), Int.shiftRight_eq_div_pow]
    have t1 := toI_cond (nI (numN f a 1) <<< (nI 24 &&& 31))
    have t2 := toI_cond (nI (4294967295 * 256 ^ 1 + numN f a 1))
    rw [e2] at t1
    rw [nI_mod (4294967295 * 256 ^ 1 + numN f a 1), pk_tn (Nat.mod_lt _ (by decide)), ← nI_mod] at t2
    rw [t1, t2]
    simp only [show (256 : Nat) ^ 1 = 256 from rfl, show (2 : Nat) ^ 24 = 16777216 from rfl, show (2 : Nat) ^ 32 = 4294967296 from rfl, show (2 : Int) ^ 32 = 4294967296 from rfl]
    generalize numN f a 1 = X at *
    generalize f a = B at *
    split <;> split <;> omega
  · have hs : sgI (f a) = nI 0 := by unfold sgI; rw [if_neg q]; rfl
    rw [hs, fold_num hf a 0 1, ← Int32.toInt_inj, pk_shr _ _ 24 (by decide), Int.shiftRight_eq_div_pow]
    have t1 := toI_cond (nI (numN f a 1) <<< (nI 24 &&& 31))
    have t2 := toI_cond (nI (0 * 256 ^ 1 + numN f a 1))
    rw [e2] at t1
    rw [show 0 * 256 ^ 1 + numN f a 1 = numN f a 1 by omega] at t2 ⊢
    rw [pk_tn (by omega)] at t2
    rw [t1, t2]
    simp only [show (2 : Nat) ^ 24 = 16777216 from rfl, show (2 : Nat) ^ 32 = 4294967296 from rfl, show (2 : Int) ^ 32 = 4294967296 from rfl]
    generalize numN f a 1 = X at *
    generalize f a = B at *
    split <;> split <;> omega
theorem si_2 {f : Nat → Nat} (hf : ∀ j, f j < 256) (a : Nat) : siVal f a 2 = foldI f a (sgI (f a)) 2 := by
  have hX := numN_lt hf a 2
  have hT := numN_top hf a 1
  have hb := hf a
  simp only [show (256 : Nat) ^ 2 = 65536 from rfl, show (256 : Nat) ^ 1 = 256 from rfl, show 1 + 1 = 2 from rfl] at hX hT
  have e2 := pk_shl (nI (numN f a 2)) (nI 16 &&& 31) 16 (by decide)
  rw [pk_tn (by omega)] at e2
  have hL : siVal f a 2 = (nI (numN f a 2) <<< (nI 16 &&& 31)) >>> (nI 16 &&& 31) := rfl
  rw [hL]
  by_cases q : 127 < f a
  · have hs : sgI (f a) = nI 4294967295 := by unfold sgI; rw [if_pos q]; rfl
    rw [hs, fold_num hf a 4294967295 2, ← Int32.toInt_inj, pk_shr _ _ 16 (by decide), Int.shiftRight_eq_div_pow]
    have t1 := toI_cond (nI (numN f a 2) <<< (nI 16 &&& 31))
    have t2 := toI_cond (nI (4294967295 * 256 ^ 2 + numN f a 2))
    rw [e2] at t1
    rw [nI_mod (4294967295 * 256 ^ 2 + numN f a 2), pk_tn (Nat.mod_lt _ (by decide)), ← nI_mod] at t2
    rw [t1, t2]
    simp only [show (256 : Nat) ^ 2 = 65536 from rfl, show (2 : Nat) ^ 16 = 65536 from rfl, show (2 : Nat) ^ 32 = 4294967296 from rfl, show (2 : Int) ^ 32 = 4294967296 from rfl]
    generalize numN f a 2 = X at *
    generalize f a = B at *
    split <;> split <;> omega
  · have hs : sgI (f a) = nI 0 := by unfold sgI; rw [if_neg q]; rfl
    rw [hs, fold_num hf a 0 2, ← Int32.toInt_inj, pk_shr _ _ 16 (by decide), Int.shiftRight_eq_div_pow]
    have t1 := toI_cond (nI (numN f a 2) <<< (nI 16 &&& 31))
    have t2 := toI_cond (nI (0 * 256 ^ 2 + numN f a 2))
    rw [e2] at t1
    rw [show 0 * 256 ^ 2 + numN f a 2 = numN f a 2 by omega] at t2 ⊢
    rw [pk_tn (by omega)] at t2
    rw [t1, t2]
    simp only [show (2 : Nat) ^ 16 = 65536 from rfl, show (2 : Nat) ^ 32 = 4294967296 from rfl, show (2 : Int) ^ 32 = 4294967296 from rfl]
    generalize numN f a 2 = X at *
    generalize f a = B at *
    split <;> split <;> omega
theorem si_3 {f : Nat → Nat} (hf : ∀ j, f j < 256) (a : Nat) : siVal f a 3 = foldI f a (sgI (f a)) 3 := by
  have hX := numN_lt hf a 3
  have hT := numN_top hf a 2
  have hb := hf a
  simp only [show (256 : Nat) ^ 3 = 16777216 from rfl, show (256 : Nat) ^ 2 = 65536 from rfl, show 2 + 1 = 3 from rfl] at hX hT
  have e2 := pk_shl (nI (numN f a 3)) (nI 8 &&& 31) 8 (by decide)
  rw [pk_tn (by omega)] at e2
  have hL : siVal f a 3 = (nI (numN f a 3) <<< (nI 8 &&& 31)) >>> (nI 8 &&& 31) := rfl
  rw [hL]
  by_cases q : 127 < f a
  · have hs : sgI (f a) = nI 4294967295 := by unfold sgI; rw [if_pos q]; rfl
    rw [hs, fold_num hf a 4294967295 3, ← Int32.toInt_inj, pk_shr _ _ 8 (by decide), Int.shiftRight_eq_div_pow]
    have t1 := toI_cond (nI (numN f a 3) <<< (nI 8 &&& 31))
    have t2 := toI_cond (nI (4294967295 * 256 ^ 3 + numN f a 3))
    rw [e2] at t1
    rw [nI_mod (4294967295 * 256 ^ 3 + numN f a 3), pk_tn (Nat.mod_lt _ (by decide)), ← nI_mod] at t2
    rw [t1, t2]
    simp only [show (256 : Nat) ^ 3 = 16777216 from rfl, show (2 : Nat) ^ 8 = 256 from rfl, show (2 : Nat) ^ 32 = 4294967296 from rfl, show (2 : Int) ^ 32 = 4294967296 from rfl]
    generalize numN f a 3 = X at *
    generalize f a = B at *
    split <;> split <;> omega
  · have hs : sgI (f a) = nI 0 := by unfold sgI; rw [if_neg q]; rfl
    rw [hs, fold_num hf a 0 3, ← Int32.toInt_inj, pk_shr _ _ 8 (by decide), Int.shiftRight_eq_div_pow]
    have t1 := toI_cond (nI (numN f a 3) <<< (nI 8 &&& 31))
    have t2 := toI_cond (nI (0 * 256 ^ 3 + numN f a 3))
    rw [e2] at t1
    rw [show 0 * 256 ^ 3 + numN f a 3 = numN f a 3 by omega] at t2 ⊢
    rw [pk_tn (by omega)] at t2
    rw [t1, t2]
    simp only [show (2 : Nat) ^ 8 = 256 from rfl, show (2 : Nat) ^ 32 = 4294967296 from rfl, show (2 : Int) ^ 32 = 4294967296 from rfl]
    generalize numN f a 3 = X at *
    generalize f a = B at *
    split <;> split <;> omega
theorem si_4 {f : Nat → Nat} (hf : ∀ j, f j < 256) (a : Nat) : siVal f a 4 = foldI f a (sgI (f a)) 4 := by
  have hX := numN_lt hf a 4
  have hT := numN_top hf a 3
  have hb := hf a
  simp only [show (256 : Nat) ^ 4 = 4294967296 from rfl, show (256 : Nat) ^ 3 = 16777216 from rfl, show 3 + 1 = 4 from rfl] at hX hT
  have e2 := pk_shl (nI (numN f a 4)) (nI 0 &&& 31) 0 (by decide)
  rw [pk_tn (by omega)] at e2
  have hL : siVal f a 4 = (nI (numN f a 4) <<< (nI 0 &&& 31)) >>> (nI 0 &&& 31) := rfl
  rw [hL]
  by_cases q : 127 < f a
  · have hs : sgI (f a) = nI 4294967295 := by unfold sgI; rw [if_pos q]; rfl
    rw [hs, fold_num hf a 4294967295 4, ← Int32.toInt_inj, pk_shr _ _ 0 (by decide), Int.shiftRight_eq_div_pow]
    have t1 := toI_cond (nI (numN f a 4) <<< (nI 0 &&& 31))
    have t2 := toI_cond (nI (4294967295 * 256 ^ 4 + numN f a 4))
    rw [e2] at t1
    rw [nI_mod (4294967295 * 256 ^ 4 + numN f a 4), pk_tn (Nat.mod_lt _ (by decide)), ← nI_mod] at t2
    rw [t1, t2]
    simp only [show (256 : Nat) ^ 4 = 4294967296 from rfl, show (2 : Nat) ^ 0 = 1 from rfl, show (2 : Nat) ^ 32 = 4294967296 from rfl, show (2 : Int) ^ 32 = 4294967296 from rfl]
    generalize numN f a 4 = X at *
    generalize f a = B at *
    split <;> split <;> omega
  · have hs : sgI (f a) = nI 0 := by unfold sgI; rw [if_neg q]; rfl
    rw [hs, fold_num hf a 0 4, ← Int32.toInt_inj, pk_shr _ _ 0 (by decide), Int.shiftRight_eq_div_pow]
    have t1 := toI_cond (nI (numN f a 4) <<< (nI 0 &&& 31))
    have t2 := toI_cond (nI (0 * 256 ^ 4 + numN f a 4))
    rw [e2] at t1
    rw [show 0 * 256 ^ 4 + numN f a 4 = numN f a 4 by omega] at t2 ⊢
    rw [pk_tn (by omega)] at t2
    rw [t1, t2]
    simp only [show (2 : Nat) ^ 0 = 1 from rfl, show (2 : Nat) ^ 32 = 4294967296 from rfl, show (2 : Int) ^ 32 = 4294967296 from rfl]
    generalize numN f a 4 = X at *
    generalize f a = B at *
    split <;> split <;> omega
theorem si_fold {f : Nat → Nat} (hf : ∀ j, f j < 256) (a : Nat) {n : Nat} (h1 : 1 ≤ n) (h4 : n ≤ 4) : siVal f a n = foldI f a (sgI (f a)) n := by
  rcases (show n = 1 ∨ n = 2 ∨ n = 3 ∨ n = 4 by omega) with rfl | rfl | rfl | rfl
  · exact si_1 hf a
  · exact si_2 hf a
  · exact si_3 hf a
  · exact si_4 hf a
