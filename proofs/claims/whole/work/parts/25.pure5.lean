def aftV (row : Nat → Nat) (sz : Nat) (R0 : (Int32 × Int32) ⊕ PS) (pl fd dp : Nat) (tg st ln ar : Nat → Nat) (pa : Nat → Int32) : Prop :=
  PInv sz pl fd (popN st ln ar pl dp) tg st ln ar ∧ R0 = (if popN st ln ar pl dp = 0 then (if pl < sz then .inl (-6, nI pl) else .inr (pl, fd, popN st ln ar pl dp, tg, st, ln, ar, pa)) else runS row sz (65 - fd) (pl, fd, popN st ln ar pl dp, tg, st, ln, ar, pa)) ∧ 0 < fd ∧ dp ≤ 16
theorem aft_of {row : Nat → Nat} (hrow : ∀ j, row j < 256) {sz place nd lv : Nat} {tg st ln ar : Nat → Nat} {pa : Nat → Int32} {x : Nat × Nat} {R0 : (Int32 × Int32) ⊕ PS} (hsz : sz ≤ 300) (hI : PInv sz place nd lv tg st ln ar) (hv : valS row sz nd lv ar st ln place = .inr x) (hR : R0 = runS row sz (65 - nd) (place, nd, lv, tg, st, ln, ar, pa)) :
    aftV row sz R0 (nxP row place x) (nd + 1) (nxL row place lv) (va_up tg nd (row place)) (va_up st nd x.2) (va_up ln nd x.1) (nxA row place nd lv ar) (upd pa nd (parI lv ar)) := by
  have hn := PInv.next hrow hsz hI hv
  obtain ⟨v1, v2, v3, v4, v5, v6, v7, v8⟩ := valS_ok hrow hv
  refine ⟨hn, ?_, by omega, by unfold nxL; split <;> omega⟩
  rw [hR, show 65 - nd = (65 - (nd + 1)) + 1 by omega]
  simp only [runS, hv]
  rfl
abbrev isNm (rd nd : Nat) (node : Int32) : Prop := ¬ rd = 0 ∧ isNd nd node
abbrev isSn (rd nd : Nat) (tg ln : Nat → Nat) (node : Int32) : Prop := ¬ rd = 0 ∧ isSm nd tg ln node
def foldI (f : Nat → Nat) (a : Nat) (s : Int32) : Nat → Int32
  | 0 => s
  | k + 1 => foldI f a s k <<< (nI 8 &&& 31) ||| nI (f (a + k))
abbrev sgI (b : Nat) : Int32 := if 127 < b then -1 else 0
