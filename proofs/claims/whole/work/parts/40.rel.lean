/-! two readings of one row agree, whatever lay in the arrays before -/
def AG (nd : Nat) (tg st ln : Nat → Nat) (pa : Nat → Int32) (tg' st' ln' : Nat → Nat) (pa' : Nat → Int32) : Prop := ∀ j, j < nd → tg j = tg' j ∧ st j = st' j ∧ ln j = ln' j ∧ pa j = pa' j
theorem popN_eq {st ln ar st' ln' ar' : Nat → Nat} {pl : Nat} : ∀ k, (∀ j, j < k → st (ar j) + ln (ar j) = st' (ar' j) + ln' (ar' j)) → popN st ln ar pl k = popN st' ln' ar' pl k
  | 0, _ => rfl
  | k + 1, h => by
    show (if st (ar k) + ln (ar k) = pl then popN st ln ar pl k else k + 1) = (if st' (ar' k) + ln' (ar' k) = pl then popN st' ln' ar' pl k else k + 1)
    rw [h k (Nat.lt_succ_self k), popN_eq k (fun j hj => h j (Nat.lt_succ_of_lt hj))]
theorem AG_up {nd : Nat} {tg st ln tg' st' ln' : Nat → Nat} {pa pa' : Nat → Int32} (h : AG nd tg st ln pa tg' st' ln' pa') (t a n : Nat) (q : Int32) : AG (nd + 1) (va_up tg nd t) (va_up st nd a) (va_up ln nd n) (upd pa nd q) (va_up tg' nd t) (va_up st' nd a) (va_up ln' nd n) (upd pa' nd q) := by
  intro j hj
  by_cases e : j = nd
  · subst e
    simp [va_up, upd]
  · have := h j (by omega)
    simp only [va_up, upd, if_neg e]
    exact this
theorem run_rel {row : Nat → Nat} {rs : Nat} : ∀ (f pl nd lv : Nat) (tg st ln ar : Nat → Nat) (pa : Nat → Int32) (tg' st' ln' ar' : Nat → Nat) (pa' : Nat → Int32), AG nd tg st ln pa tg' st' ln' pa' → (∀ j, j < lv → ar j = ar' j ∧ ar j < nd) →
    (∃ x, runS row rs f (pl, nd, lv, tg, st, ln, ar, pa) = .inl x ∧ runS row rs f (pl, nd, lv, tg', st', ln', ar', pa') = .inl x) ∨
    (∃ (p n l : Nat) (t s m a : Nat → Nat) (q : Nat → Int32) (t' s' m' a' : Nat → Nat) (q' : Nat → Int32), runS row rs f (pl, nd, lv, tg, st, ln, ar, pa) = .inr (p, n, l, t, s, m, a, q) ∧ runS row rs f (pl, nd, lv, tg', st', ln', ar', pa') = .inr (p, n, l, t', s', m', a', q') ∧ AG n t s m q t' s' m' q')
  | 0, pl, nd, lv, tg, st, ln, ar, pa, tg', st', ln', ar', pa', h, _ => Or.inr ⟨pl, nd, lv, tg, st, ln, ar, pa, tg', st', ln', ar', pa', rfl, rfl, h⟩
  | f + 1, pl, nd, lv, tg, st, ln, ar, pa, tg', st', ln', ar', pa', h, ha => by
    have hE : ∀ j, j < lv → st (ar j) + ln (ar j) = st' (ar' j) + ln' (ar' j) := fun j hj => by
      have h1 := ha j hj
      have h2 := h (ar j) h1.2
      rw [h2.2.1, h2.2.2.1, h1.1]
    have hlim : limN rs lv ar st ln = limN rs lv ar' st' ln' := by
      unfold limN
      split
      · rfl
      · exact hE (lv - 1) (by omega)
    have hpar : parI lv ar = parI lv ar' := by
      unfold parI
      split
      · rfl
      · rw [(ha (lv - 1) (by omega)).1]
    have hval : valS row rs nd lv ar' st' ln' pl = valS row rs nd lv ar st ln pl := by
      unfold valS
      rw [hlim]
    cases hv : valS row rs nd lv ar st ln pl with
    | inl x => exact Or.inl ⟨x, run_err hv, run_err (hval.trans hv)⟩
    | inr x =>
      have hv' := hval.trans hv
      have hA := AG_up h (row pl) x.2 x.1 (parI lv ar)
      have hst : ∀ j, j < nxL row pl lv → nxA row pl nd lv ar j = nxA row pl nd lv ar' j ∧ nxA row pl nd lv ar j < nd + 1 := by
        intro j hj
        unfold nxA
        unfold nxL at hj
        split at hj
        · rename_i q
          rw [if_pos q, if_pos q]
          by_cases e : j = lv
          · rw [e, up_eq, up_eq]; exact ⟨rfl, Nat.lt_succ_self nd⟩
          · rw [up_ne _ _ e, up_ne _ _ e]
            have := ha j (by omega)
            exact ⟨this.1, by omega⟩
        · rename_i q
          rw [if_neg q, if_neg q]
          have := ha j hj
          exact ⟨this.1, by omega⟩
      have hV : nxV row pl nd lv st' ln' ar' x = nxV row pl nd lv st ln ar x := by
        unfold nxV
        refine (popN_eq _ (fun j hj => ?_)).symm
        have h1 := hst j hj
        have h2 := hA _ h1.2
        rw [h2.2.1, h2.2.2.1, h1.1]
      have hVle : nxV row pl nd lv st ln ar x ≤ nxL row pl lv := popN_le _ _ _ _ _
      by_cases h0 : nxV row pl nd lv st ln ar x = 0
      · by_cases h1 : nxP row pl x < rs
        · exact Or.inl ⟨_, run_end hv h0 h1, run_end hv' (hV.trans h0) h1⟩
        · refine Or.inr ⟨_, _, _, _, _, _, _, _, va_up tg' nd (row pl), va_up st' nd x.2, va_up ln' nd x.1, nxA row pl nd lv ar', upd pa' nd (parI lv ar), run_ok hv h0 h1, ?_, hA⟩
          rw [run_ok hv' (hV.trans h0) h1]
          unfold nxS
          rw [hV, hpar]
      · rw [run_go hv h0, run_go hv' (by rw [hV]; exact h0)]
        have := run_rel (row := row) (rs := rs) f (nxP row pl x) (nd + 1) (nxV row pl nd lv st ln ar x) _ _ _ (nxA row pl nd lv ar) _ _ _ _ (nxA row pl nd lv ar') _ hA (fun j hj => hst j (by omega))
        unfold nxS
        rw [hV, ← hpar]
        exact this
/-- INTEGER has a byte at least -/
theorem run_int {row : Nat → Nat} {rs : Nat} (hrow : ∀ j, row j < 256) : ∀ (f pl nd lv : Nat) (tg st ln ar : Nat → Nat) (pa : Nat → Int32) (S : PS), (∀ j, j < nd → tg j = 2 → 1 ≤ ln j) → runS row rs f (pl, nd, lv, tg, st, ln, ar, pa) = .inr S → ∀ j, j < S.2.1 → S.2.2.2.1 j = 2 → 1 ≤ S.2.2.2.2.2.1 j
  | 0, pl, nd, lv, tg, st, ln, ar, pa, S, h, hr => by
    have e : (pl, nd, lv, tg, st, ln, ar, pa) = S := Sum.inr.inj hr
    subst e
    exact h
  | f + 1, pl, nd, lv, tg, st, ln, ar, pa, S, h, hr => by
    cases hv : valS row rs nd lv ar st ln pl with
    | inl x => rw [run_err hv] at hr; cases hr
    | inr x =>
      obtain ⟨v1, v2, v3, v4, v5, v6, v7, v8⟩ := valS_ok hrow hv
      have hn : ∀ j, j < nd + 1 → va_up tg nd (row pl) j = 2 → 1 ≤ va_up ln nd x.1 j := by
        intro j hj ht
        by_cases e : j = nd
        · rw [e, up_eq] at ht ⊢
          rw [ht] at v8
          have : okInt row x.2 x.1 = true := v8
          unfold okInt at this
          rw [decide_eq_true_eq] at this
          exact this.1
        · rw [up_ne _ _ e] at ht ⊢
          exact h j (by omega) ht
      by_cases h0 : nxV row pl nd lv st ln ar x = 0
      · by_cases h1 : nxP row pl x < rs
        · rw [run_end hv h0 h1] at hr; cases hr
        · rw [run_ok hv h0 h1] at hr
          have e := Sum.inr.inj hr
          subst e
          exact hn
      · rw [run_go hv h0] at hr
        exact run_int hrow f _ _ _ _ _ _ _ _ S hn hr
theorem shl8 (a : Nat) : nI a <<< (nI 8 &&& 31) = nI (a * 256) := by
  apply Int32.toBitVec_inj.1
  apply BitVec.eq_of_toNat_eq
  rw [pk_shl (nI a) (nI 8 &&& 31) 8 (by decide)]
  simp [nI]
theorem fold_step (a b : Nat) (hb : b < 256) : nI a <<< (nI 8 &&& 31) ||| nI b = nI (a * 256 + b) := by
  rw [shl8, nI_or]
  have := Nat.two_pow_add_eq_or_of_lt (i := 8) (b := b) hb a
  rw [Nat.mul_comm a 256]
  exact congrArg nI this.symm
theorem fold_num {f : Nat → Nat} (hf : ∀ j, f j < 256) (a s : Nat) : ∀ k, foldI f a (nI s) k = nI (s * 256 ^ k + numN f a k)
  | 0 => by simp [foldI, numN]
  | k + 1 => by
    show foldI f a (nI s) k <<< (nI 8 &&& 31) ||| nI (f (a + k)) = _
    rw [fold_num hf a s k, fold_step _ _ (hf _)]
    congr 1
    show _ = s * 256 ^ (k + 1) + (numN f a k * 256 + f (a + k))
    rw [Nat.pow_succ, Nat.add_mul, Nat.mul_assoc, Nat.add_assoc]
theorem numN_top {f : Nat → Nat} (hf : ∀ j, f j < 256) (a : Nat) : ∀ k, f a * 256 ^ k ≤ numN f a (k + 1) ∧ numN f a (k + 1) < (f a + 1) * 256 ^ k
  | 0 => by simp [numN]
  | k + 1 => by
    have ih := numN_top hf a k
    have hb := hf (a + (k + 1))
    have e : numN f a (k + 1 + 1) = numN f a (k + 1) * 256 + f (a + (k + 1)) := rfl
    rw [e, Nat.pow_succ, ← Nat.mul_assoc, ← Nat.mul_assoc]
    omega
theorem nI_mod (a : Nat) : nI a = nI (a % 2 ^ 32) := by
  apply Int32.toBitVec_inj.1
  show BitVec.ofNat 32 a = BitVec.ofNat 32 (a % 2 ^ 32)
  apply BitVec.eq_of_toNat_eq
  simp
