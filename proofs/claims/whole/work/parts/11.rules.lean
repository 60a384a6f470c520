abbrev pX1_isByte (x : Int32) : Int32 → Unit → Prop := fun (r : Int32) (u : Unit) => r = if isB x then 1 else 0
abbrev vX1_isByte (cA : ClassId) (x : Int32) : Unit → va_W := fun (u : Unit) => []
abbrev qX1_isByte (dC : Nat → ClassId) (dI : Nat → Nat → Nat) (cA : ClassId) (A : Nat → Prop) (x : Int32) : Array Value → State → Outcome → State → Prop := va_Qi (pX1_isByte x) (fun u => cAft dC dI cA A (vX1_isByte cA x u)) A
set_option maxHeartbeats 4000000 in
set_option maxRecDepth 100000 in
theorem k_X1_isByte (l : Launch) (dC : Nat → ClassId) (dI : Nat → Nat → Nat) (cA : ClassId) (x : Int32) (sz : Nat)  : Met l yX1_isByte wsX1_isByte ({ frames := 0, cells := 0, slots := 0, locals := 0 } : Room) (va_Pc [.int x] (cPre dC dI cA ([]) sz)) (qX1_isByte dC dI cA (va_A ([]) sz) x) 0 0 (va_A ([]) sz) := by
  refine Met.ofW (cc := cX1_isByte) (maxL := 1) (ret := (some .boolean)) (by decide) rfl ?_
  intro p e s m args below meth c s₁ B hml hv
  obtain ⟨rfl, hsz, hP, hK, hD0⟩ := hv
  have hx := B.exec
  have hb := B.bytes
  have hr := B.returns
  have hts := atoms_spec (ws := wsX1_isByte) B.pre
  have hown : s.vm.findClass RX1 = some m.cls := findClass_of_methodNamed B.named
  have hlocks := B.notSynchronized
  subst hsz
  have hD := hD0.self (sz := s.heap.size)
  generalize hAe : va_A ([]) s.heap.size = A at hD ⊢
  have hA : ∀ q : Nat, s.heap.size ≤ q → A q := fun q h => by rw [← hAe]; exact Or.inr h
  have hS : va_S A s.heap s.heap [] := va_S.rf
  have hl := lv_entry ([.int x]) (n := 1) (Nat.le_of_ble_eq_true rfl)
  rw [lg_entry_eq]
  generalize (lg_sl ([.int x]) ++ List.replicate (1 - (lg_sl ([.int x])).length) Slot.unset).toArray = ls at hl ⊢
  have hl : lv_has ls 1 [(0, .int x)] := hl
  have hP : va_P (dC, dI) vwCl ([]) s.heap := hP
  refine lv_iload_n hx hb dX1_isByte_0 rfl (lv_at hl 0 rfl) ?_
  refine lv_if_lt (tgt := 15) hx hb dX1_isByte_1 (by decide) (fun c_1 => ?_) (fun c_1 => ?_)
  · refine lv_iconst (v := nI 0) hx hb dX1_isByte_15 (by decide) ?_
    have hP9 : va_P (dC, dI) vwCl (vX1_isByte cA x ()) _ := hP
    have hD9 : va_D A (vX1_isByte cA x ()) := hD
    have hq9 : pX1_isByte x (nI 0) () := (if_neg (by first | (exact ⟨by assumption, by assumption⟩) | (exact isB_iff.mp ⟨by assumption, by assumption⟩) | (rw [← isB_iff]; grind) | (unfold isB; grind))).symm
    exact W.zret (v := nI 0) hx hb hr rfl (fun t ht hW => ⟨⟨nI 0, (), rfl, hq9, by rw [ht]; exact hP9, va_K.moved hW.alike hK, hD9⟩, hS.F ht⟩) hS.2.2 dX1_isByte_16
  · refine lv_iload_n hx hb dX1_isByte_4 rfl (lv_at hl 0 rfl) ?_
    refine lv_sipush (v := nI 255) hx hb dX1_isByte_5 (by decide) ?_
    refine lv_icmp_gt (tgt := 15) hx hb dX1_isByte_8 (by decide) (fun c_2 => ?_) (fun c_2 => ?_)
    · refine lv_iconst (v := nI 0) hx hb dX1_isByte_15 (by decide) ?_
      have hP9 : va_P (dC, dI) vwCl (vX1_isByte cA x ()) _ := hP
      have hD9 : va_D A (vX1_isByte cA x ()) := hD
      have hq9 : pX1_isByte x (nI 0) () := (if_neg (by first | (exact ⟨by assumption, by assumption⟩) | (exact isB_iff.mp ⟨by assumption, by assumption⟩) | (rw [← isB_iff]; grind) | (unfold isB; grind))).symm
      exact W.zret (v := nI 0) hx hb hr rfl (fun t ht hW => ⟨⟨nI 0, (), rfl, hq9, by rw [ht]; exact hP9, va_K.moved hW.alike hK, hD9⟩, hS.F ht⟩) hS.2.2 dX1_isByte_16
    · refine lv_iconst (v := nI 1) hx hb dX1_isByte_11 (by decide) ?_
      refine lv_goto (tgt := 16) hx hb dX1_isByte_12 (by decide) ?_
      have hP9 : va_P (dC, dI) vwCl (vX1_isByte cA x ()) _ := hP
      have hD9 : va_D A (vX1_isByte cA x ()) := hD
      have hq9 : pX1_isByte x (nI 1) () := (if_pos (by first | (exact ⟨by assumption, by assumption⟩) | (exact isB_iff.mp ⟨by assumption, by assumption⟩) | (rw [← isB_iff]; grind) | (unfold isB; grind))).symm
      exact W.zret (v := nI 1) hx hb hr rfl (fun t ht hW => ⟨⟨nI 1, (), rfl, hq9, by rw [ht]; exact hP9, va_K.moved hW.alike hK, hD9⟩, hS.F ht⟩) hS.2.2 dX1_isByte_16
abbrev pX4_isByte (x : Int32) : Int32 → Unit → Prop := fun (r : Int32) (u : Unit) => r = if isB x then 1 else 0
abbrev vX4_isByte (cA : ClassId) (x : Int32) : Unit → va_W := fun (u : Unit) => []
abbrev qX4_isByte (dC : Nat → ClassId) (dI : Nat → Nat → Nat) (cA : ClassId) (A : Nat → Prop) (x : Int32) : Array Value → State → Outcome → State → Prop := va_Qi (pX4_isByte x) (fun u => cAft dC dI cA A (vX4_isByte cA x u)) A
set_option maxHeartbeats 4000000 in
set_option maxRecDepth 100000 in
theorem k_X4_isByte (l : Launch) (dC : Nat → ClassId) (dI : Nat → Nat → Nat) (cA : ClassId) (x : Int32) (sz : Nat)  : Met l yX4_isByte wsX4_isByte ({ frames := 0, cells := 0, slots := 0, locals := 0 } : Room) (va_Pc [.int x] (cPre dC dI cA ([]) sz)) (qX4_isByte dC dI cA (va_A ([]) sz) x) 0 0 (va_A ([]) sz) := by
  refine Met.ofW (cc := cX4_isByte) (maxL := 1) (ret := (some .boolean)) (by decide) rfl ?_
  intro p e s m args below meth c s₁ B hml hv
  obtain ⟨rfl, hsz, hP, hK, hD0⟩ := hv
  have hx := B.exec
  have hb := B.bytes
  have hr := B.returns
  have hts := atoms_spec (ws := wsX4_isByte) B.pre
  have hown : s.vm.findClass RX4 = some m.cls := findClass_of_methodNamed B.named
  have hlocks := B.notSynchronized
  subst hsz
  have hD := hD0.self (sz := s.heap.size)
  generalize hAe : va_A ([]) s.heap.size = A at hD ⊢
  have hA : ∀ q : Nat, s.heap.size ≤ q → A q := fun q h => by rw [← hAe]; exact Or.inr h
  have hS : va_S A s.heap s.heap [] := va_S.rf
  have hl := lv_entry ([.int x]) (n := 1) (Nat.le_of_ble_eq_true rfl)
  rw [lg_entry_eq]
  generalize (lg_sl ([.int x]) ++ List.replicate (1 - (lg_sl ([.int x])).length) Slot.unset).toArray = ls at hl ⊢
  have hl : lv_has ls 1 [(0, .int x)] := hl
  have hP : va_P (dC, dI) vwCl ([]) s.heap := hP
  refine lv_iload_n hx hb dX4_isByte_0 rfl (lv_at hl 0 rfl) ?_
  refine lv_if_lt (tgt := 15) hx hb dX4_isByte_1 (by decide) (fun c_1 => ?_) (fun c_1 => ?_)
  · refine lv_iconst (v := nI 0) hx hb dX4_isByte_15 (by decide) ?_
    have hP9 : va_P (dC, dI) vwCl (vX4_isByte cA x ()) _ := hP
    have hD9 : va_D A (vX4_isByte cA x ()) := hD
    have hq9 : pX4_isByte x (nI 0) () := (if_neg (by first | (exact ⟨by assumption, by assumption⟩) | (exact isB_iff.mp ⟨by assumption, by assumption⟩) | (rw [← isB_iff]; grind) | (unfold isB; grind))).symm
    exact W.zret (v := nI 0) hx hb hr rfl (fun t ht hW => ⟨⟨nI 0, (), rfl, hq9, by rw [ht]; exact hP9, va_K.moved hW.alike hK, hD9⟩, hS.F ht⟩) hS.2.2 dX4_isByte_16
  · refine lv_iload_n hx hb dX4_isByte_4 rfl (lv_at hl 0 rfl) ?_
    refine lv_sipush (v := nI 256) hx hb dX4_isByte_5 (by decide) ?_
    refine lv_icmp_ge (tgt := 15) hx hb dX4_isByte_8 (by decide) (fun c_2 => ?_) (fun c_2 => ?_)
    · refine lv_iconst (v := nI 0) hx hb dX4_isByte_15 (by decide) ?_
      have hP9 : va_P (dC, dI) vwCl (vX4_isByte cA x ()) _ := hP
      have hD9 : va_D A (vX4_isByte cA x ()) := hD
      have hq9 : pX4_isByte x (nI 0) () := (if_neg (by first | (exact ⟨by assumption, by assumption⟩) | (exact isB_iff.mp ⟨by assumption, by assumption⟩) | (rw [← isB_iff]; grind) | (unfold isB; grind))).symm
      exact W.zret (v := nI 0) hx hb hr rfl (fun t ht hW => ⟨⟨nI 0, (), rfl, hq9, by rw [ht]; exact hP9, va_K.moved hW.alike hK, hD9⟩, hS.F ht⟩) hS.2.2 dX4_isByte_16
    · refine lv_iconst (v := nI 1) hx hb dX4_isByte_11 (by decide) ?_
      refine lv_goto (tgt := 16) hx hb dX4_isByte_12 (by decide) ?_
      have hP9 : va_P (dC, dI) vwCl (vX4_isByte cA x ()) _ := hP
      have hD9 : va_D A (vX4_isByte cA x ()) := hD
      have hq9 : pX4_isByte x (nI 1) () := (if_pos (by first | (exact ⟨by assumption, by assumption⟩) | (exact isB_iff.mp ⟨by assumption, by assumption⟩) | (rw [← isB_iff]; grind) | (unfold isB; grind))).symm
      exact W.zret (v := nI 1) hx hb hr rfl (fun t ht hW => ⟨⟨nI 1, (), rfl, hq9, by rw [ht]; exact hP9, va_K.moved hW.alike hK, hD9⟩, hS.F ht⟩) hS.2.2 dX4_isByte_16
abbrev pX1_isIdentifier (x : Int32) : Int32 → Unit → Prop := fun (r : Int32) (u : Unit) => r = if isId x then 1 else 0
abbrev vX1_isIdentifier (cA : ClassId) (x : Int32) : Unit → va_W := fun (u : Unit) => []
abbrev qX1_isIdentifier (dC : Nat → ClassId) (dI : Nat → Nat → Nat) (cA : ClassId) (A : Nat → Prop) (x : Int32) : Array Value → State → Outcome → State → Prop := va_Qi (pX1_isIdentifier x) (fun u => cAft dC dI cA A (vX1_isIdentifier cA x u)) A
set_option maxHeartbeats 4000000 in
set_option maxRecDepth 100000 in
theorem k_X1_isIdentifier (l : Launch) (dC : Nat → ClassId) (dI : Nat → Nat → Nat) (cA : ClassId) (x : Int32) (sz : Nat)  : Met l yX1_isIdentifier wsX1_isIdentifier ({ frames := 0, cells := 0, slots := 0, locals := 0 } : Room) (va_Pc [.int x] (cPre dC dI cA ([]) sz)) (qX1_isIdentifier dC dI cA (va_A ([]) sz) x) 0 0 (va_A ([]) sz) := by
  refine Met.ofW (cc := cX1_isIdentifier) (maxL := 1) (ret := (some .boolean)) (by decide) rfl ?_
  intro p e s m args below meth c s₁ B hml hv
  obtain ⟨rfl, hsz, hP, hK, hD0⟩ := hv
  have hx := B.exec
  have hb := B.bytes
  have hr := B.returns
  have hts := atoms_spec (ws := wsX1_isIdentifier) B.pre
  have hown : s.vm.findClass RX1 = some m.cls := findClass_of_methodNamed B.named
  have hlocks := B.notSynchronized
  subst hsz
  have hD := hD0.self (sz := s.heap.size)
  generalize hAe : va_A ([]) s.heap.size = A at hD ⊢
  have hA : ∀ q : Nat, s.heap.size ≤ q → A q := fun q h => by rw [← hAe]; exact Or.inr h
  have hS : va_S A s.heap s.heap [] := va_S.rf
  have hl := lv_entry ([.int x]) (n := 1) (Nat.le_of_ble_eq_true rfl)
  rw [lg_entry_eq]
  generalize (lg_sl ([.int x]) ++ List.replicate (1 - (lg_sl ([.int x])).length) Slot.unset).toArray = ls at hl ⊢
  have hl : lv_has ls 1 [(0, .int x)] := hl
  have hP : va_P (dC, dI) vwCl ([]) s.heap := hP
  refine lv_iload_n hx hb dX1_isIdentifier_0 rfl (lv_at hl 0 rfl) ?_
  refine lv_iconst (v := nI 1) hx hb dX1_isIdentifier_1 (by decide) ?_
  refine lv_icmp_lt (tgt := 11) hx hb dX1_isIdentifier_2 (by decide) (fun c_1 => ?_) (fun c_1 => ?_)
  · refine lv_iload_n hx hb dX1_isIdentifier_11 rfl (lv_at hl 0 rfl) ?_
    refine lv_bipush (v := nI 48) hx hb dX1_isIdentifier_12 (by decide) ?_
    refine lv_icmp_ne (tgt := 21) hx hb dX1_isIdentifier_14 (by decide) (fun c_2 => ?_) (fun c_2 => ?_)
    · refine lv_iconst (v := nI 0) hx hb dX1_isIdentifier_21 (by decide) ?_
      have hP9 : va_P (dC, dI) vwCl (vX1_isIdentifier cA x ()) _ := hP
      have hD9 : va_D A (vX1_isIdentifier cA x ()) := hD
      have hq9 : pX1_isIdentifier x (nI 0) () := (if_neg (by unfold isId; grind)).symm
      exact W.zret (v := nI 0) hx hb hr rfl (fun t ht hW => ⟨⟨nI 0, (), rfl, hq9, by rw [ht]; exact hP9, va_K.moved hW.alike hK, hD9⟩, hS.F ht⟩) hS.2.2 dX1_isIdentifier_22
    · refine lv_iconst (v := nI 1) hx hb dX1_isIdentifier_17 (by decide) ?_
      refine lv_goto (tgt := 22) hx hb dX1_isIdentifier_18 (by decide) ?_
      have hP9 : va_P (dC, dI) vwCl (vX1_isIdentifier cA x ()) _ := hP
      have hD9 : va_D A (vX1_isIdentifier cA x ()) := hD
      have hq9 : pX1_isIdentifier x (nI 1) () := (if_pos (by unfold isId; grind)).symm
      exact W.zret (v := nI 1) hx hb hr rfl (fun t ht hW => ⟨⟨nI 1, (), rfl, hq9, by rw [ht]; exact hP9, va_K.moved hW.alike hK, hD9⟩, hS.F ht⟩) hS.2.2 dX1_isIdentifier_22
  · refine lv_iload_n hx hb dX1_isIdentifier_5 rfl (lv_at hl 0 rfl) ?_
    refine lv_bipush (v := nI 6) hx hb dX1_isIdentifier_6 (by decide) ?_
    refine lv_icmp_le (tgt := 17) hx hb dX1_isIdentifier_8 (by decide) (fun c_3 => ?_) (fun c_3 => ?_)
    · refine lv_iconst (v := nI 1) hx hb dX1_isIdentifier_17 (by decide) ?_
      refine lv_goto (tgt := 22) hx hb dX1_isIdentifier_18 (by decide) ?_
      have hP9 : va_P (dC, dI) vwCl (vX1_isIdentifier cA x ()) _ := hP
      have hD9 : va_D A (vX1_isIdentifier cA x ()) := hD
      have hq9 : pX1_isIdentifier x (nI 1) () := (if_pos (by unfold isId; grind)).symm
      exact W.zret (v := nI 1) hx hb hr rfl (fun t ht hW => ⟨⟨nI 1, (), rfl, hq9, by rw [ht]; exact hP9, va_K.moved hW.alike hK, hD9⟩, hS.F ht⟩) hS.2.2 dX1_isIdentifier_22
    · refine lv_iload_n hx hb dX1_isIdentifier_11 rfl (lv_at hl 0 rfl) ?_
      refine lv_bipush (v := nI 48) hx hb dX1_isIdentifier_12 (by decide) ?_
      refine lv_icmp_ne (tgt := 21) hx hb dX1_isIdentifier_14 (by decide) (fun c_4 => ?_) (fun c_4 => ?_)
      · refine lv_iconst (v := nI 0) hx hb dX1_isIdentifier_21 (by decide) ?_
        have hP9 : va_P (dC, dI) vwCl (vX1_isIdentifier cA x ()) _ := hP
        have hD9 : va_D A (vX1_isIdentifier cA x ()) := hD
        have hq9 : pX1_isIdentifier x (nI 0) () := (if_neg (by unfold isId; grind)).symm
        exact W.zret (v := nI 0) hx hb hr rfl (fun t ht hW => ⟨⟨nI 0, (), rfl, hq9, by rw [ht]; exact hP9, va_K.moved hW.alike hK, hD9⟩, hS.F ht⟩) hS.2.2 dX1_isIdentifier_22
      · refine lv_iconst (v := nI 1) hx hb dX1_isIdentifier_17 (by decide) ?_
        refine lv_goto (tgt := 22) hx hb dX1_isIdentifier_18 (by decide) ?_
        have hP9 : va_P (dC, dI) vwCl (vX1_isIdentifier cA x ()) _ := hP
        have hD9 : va_D A (vX1_isIdentifier cA x ()) := hD
        have hq9 : pX1_isIdentifier x (nI 1) () := (if_pos (by unfold isId; grind)).symm
        exact W.zret (v := nI 1) hx hb hr rfl (fun t ht hW => ⟨⟨nI 1, (), rfl, hq9, by rw [ht]; exact hP9, va_K.moved hW.alike hK, hD9⟩, hS.F ht⟩) hS.2.2 dX1_isIdentifier_22
abbrev pX4_isTag (x : Int32) : Int32 → Unit → Prop := fun (r : Int32) (u : Unit) => r = if isId x then 1 else 0
abbrev vX4_isTag (cA : ClassId) (x : Int32) : Unit → va_W := fun (u : Unit) => []
abbrev qX4_isTag (dC : Nat → ClassId) (dI : Nat → Nat → Nat) (cA : ClassId) (A : Nat → Prop) (x : Int32) : Array Value → State → Outcome → State → Prop := va_Qi (pX4_isTag x) (fun u => cAft dC dI cA A (vX4_isTag cA x u)) A
set_option maxHeartbeats 4000000 in
set_option maxRecDepth 100000 in
theorem k_X4_isTag (l : Launch) (dC : Nat → ClassId) (dI : Nat → Nat → Nat) (cA : ClassId) (x : Int32) (sz : Nat)  : Met l yX4_isTag wsX4_isTag ({ frames := 0, cells := 0, slots := 0, locals := 0 } : Room) (va_Pc [.int x] (cPre dC dI cA ([]) sz)) (qX4_isTag dC dI cA (va_A ([]) sz) x) 0 0 (va_A ([]) sz) := by
  refine Met.ofW (cc := cX4_isTag) (maxL := 1) (ret := (some .boolean)) (by decide) rfl ?_
  intro p e s m args below meth c s₁ B hml hv
  obtain ⟨rfl, hsz, hP, hK, hD0⟩ := hv
  have hx := B.exec
  have hb := B.bytes
  have hr := B.returns
  have hts := atoms_spec (ws := wsX4_isTag) B.pre
  have hown : s.vm.findClass RX4 = some m.cls := findClass_of_methodNamed B.named
  have hlocks := B.notSynchronized
  subst hsz
  have hD := hD0.self (sz := s.heap.size)
  generalize hAe : va_A ([]) s.heap.size = A at hD ⊢
  have hA : ∀ q : Nat, s.heap.size ≤ q → A q := fun q h => by rw [← hAe]; exact Or.inr h
  have hS : va_S A s.heap s.heap [] := va_S.rf
  have hl := lv_entry ([.int x]) (n := 1) (Nat.le_of_ble_eq_true rfl)
  rw [lg_entry_eq]
  generalize (lg_sl ([.int x]) ++ List.replicate (1 - (lg_sl ([.int x])).length) Slot.unset).toArray = ls at hl ⊢
  have hl : lv_has ls 1 [(0, .int x)] := hl
  have hP : va_P (dC, dI) vwCl ([]) s.heap := hP
  refine lv_iload_n hx hb dX4_isTag_0 rfl (lv_at hl 0 rfl) ?_
  refine lv_iconst (v := nI 1) hx hb dX4_isTag_1 (by decide) ?_
  refine lv_icmp_lt (tgt := 11) hx hb dX4_isTag_2 (by decide) (fun c_1 => ?_) (fun c_1 => ?_)
  · refine lv_iload_n hx hb dX4_isTag_11 rfl (lv_at hl 0 rfl) ?_
    refine lv_bipush (v := nI 48) hx hb dX4_isTag_12 (by decide) ?_
    refine lv_icmp_ne (tgt := 21) hx hb dX4_isTag_14 (by decide) (fun c_2 => ?_) (fun c_2 => ?_)
    · refine lv_iconst (v := nI 0) hx hb dX4_isTag_21 (by decide) ?_
      have hP9 : va_P (dC, dI) vwCl (vX4_isTag cA x ()) _ := hP
      have hD9 : va_D A (vX4_isTag cA x ()) := hD
      have hq9 : pX4_isTag x (nI 0) () := (if_neg (by unfold isId; grind)).symm
      exact W.zret (v := nI 0) hx hb hr rfl (fun t ht hW => ⟨⟨nI 0, (), rfl, hq9, by rw [ht]; exact hP9, va_K.moved hW.alike hK, hD9⟩, hS.F ht⟩) hS.2.2 dX4_isTag_22
    · refine lv_iconst (v := nI 1) hx hb dX4_isTag_17 (by decide) ?_
      refine lv_goto (tgt := 22) hx hb dX4_isTag_18 (by decide) ?_
      have hP9 : va_P (dC, dI) vwCl (vX4_isTag cA x ()) _ := hP
      have hD9 : va_D A (vX4_isTag cA x ()) := hD
      have hq9 : pX4_isTag x (nI 1) () := (if_pos (by unfold isId; grind)).symm
      exact W.zret (v := nI 1) hx hb hr rfl (fun t ht hW => ⟨⟨nI 1, (), rfl, hq9, by rw [ht]; exact hP9, va_K.moved hW.alike hK, hD9⟩, hS.F ht⟩) hS.2.2 dX4_isTag_22
  · refine lv_iload_n hx hb dX4_isTag_5 rfl (lv_at hl 0 rfl) ?_
    refine lv_bipush (v := nI 6) hx hb dX4_isTag_6 (by decide) ?_
    refine lv_icmp_le (tgt := 17) hx hb dX4_isTag_8 (by decide) (fun c_3 => ?_) (fun c_3 => ?_)
    · refine lv_iconst (v := nI 1) hx hb dX4_isTag_17 (by decide) ?_
      refine lv_goto (tgt := 22) hx hb dX4_isTag_18 (by decide) ?_
      have hP9 : va_P (dC, dI) vwCl (vX4_isTag cA x ()) _ := hP
      have hD9 : va_D A (vX4_isTag cA x ()) := hD
      have hq9 : pX4_isTag x (nI 1) () := (if_pos (by unfold isId; grind)).symm
      exact W.zret (v := nI 1) hx hb hr rfl (fun t ht hW => ⟨⟨nI 1, (), rfl, hq9, by rw [ht]; exact hP9, va_K.moved hW.alike hK, hD9⟩, hS.F ht⟩) hS.2.2 dX4_isTag_22
    · refine lv_iload_n hx hb dX4_isTag_11 rfl (lv_at hl 0 rfl) ?_
      refine lv_bipush (v := nI 48) hx hb dX4_isTag_12 (by decide) ?_
      refine lv_icmp_ne (tgt := 21) hx hb dX4_isTag_14 (by decide) (fun c_4 => ?_) (fun c_4 => ?_)
      · refine lv_iconst (v := nI 0) hx hb dX4_isTag_21 (by decide) ?_
        have hP9 : va_P (dC, dI) vwCl (vX4_isTag cA x ()) _ := hP
        have hD9 : va_D A (vX4_isTag cA x ()) := hD
        have hq9 : pX4_isTag x (nI 0) () := (if_neg (by unfold isId; grind)).symm
        exact W.zret (v := nI 0) hx hb hr rfl (fun t ht hW => ⟨⟨nI 0, (), rfl, hq9, by rw [ht]; exact hP9, va_K.moved hW.alike hK, hD9⟩, hS.F ht⟩) hS.2.2 dX4_isTag_22
      · refine lv_iconst (v := nI 1) hx hb dX4_isTag_17 (by decide) ?_
        refine lv_goto (tgt := 22) hx hb dX4_isTag_18 (by decide) ?_
        have hP9 : va_P (dC, dI) vwCl (vX4_isTag cA x ()) _ := hP
        have hD9 : va_D A (vX4_isTag cA x ()) := hD
        have hq9 : pX4_isTag x (nI 1) () := (if_pos (by unfold isId; grind)).symm
        exact W.zret (v := nI 1) hx hb hr rfl (fun t ht hW => ⟨⟨nI 1, (), rfl, hq9, by rw [ht]; exact hP9, va_K.moved hW.alike hK, hD9⟩, hS.F ht⟩) hS.2.2 dX4_isTag_22
def lenSz (n : Nat) : Nat := if n < 128 then 1 else if n < 256 then 2 else 3
theorem lenSz_le (n : Nat) : 1 ≤ lenSz n ∧ lenSz n ≤ 3 := by unfold lenSz; (repeat' split) <;> omega
abbrev pX1_lengthSize (n : Nat) : Int32 → Unit → Prop := fun (r : Int32) (u : Unit) => r = nI (lenSz n)
abbrev vX1_lengthSize (cA : ClassId) (n : Nat) : Unit → va_W := fun (u : Unit) => []
abbrev qX1_lengthSize (dC : Nat → ClassId) (dI : Nat → Nat → Nat) (cA : ClassId) (A : Nat → Prop) (n : Nat) : Array Value → State → Outcome → State → Prop := va_Qi (pX1_lengthSize n) (fun u => cAft dC dI cA A (vX1_lengthSize cA n u)) A
set_option maxHeartbeats 4000000 in
set_option maxRecDepth 100000 in
theorem k_X1_lengthSize (l : Launch) (dC : Nat → ClassId) (dI : Nat → Nat → Nat) (cA : ClassId) (n : Nat) (sz : Nat) (hn : n < 2 ^ 31) : Met l yX1_lengthSize wsX1_lengthSize ({ frames := 0, cells := 0, slots := 0, locals := 0 } : Room) (va_Pc [.int (nI n)] (cPre dC dI cA ([]) sz)) (qX1_lengthSize dC dI cA (va_A ([]) sz) n) 0 0 (va_A ([]) sz) := by
  refine Met.ofW (cc := cX1_lengthSize) (maxL := 1) (ret := (some .int)) (by decide) rfl ?_
  intro p e s m args below meth c s₁ B hml hv
  obtain ⟨rfl, hsz, hP, hK, hD0⟩ := hv
  have hx := B.exec
  have hb := B.bytes
  have hr := B.returns
  have hts := atoms_spec (ws := wsX1_lengthSize) B.pre
  have hown : s.vm.findClass RX1 = some m.cls := findClass_of_methodNamed B.named
  have hlocks := B.notSynchronized
  subst hsz
  have hD := hD0.self (sz := s.heap.size)
  generalize hAe : va_A ([]) s.heap.size = A at hD ⊢
  have hA : ∀ q : Nat, s.heap.size ≤ q → A q := fun q h => by rw [← hAe]; exact Or.inr h
  have hS : va_S A s.heap s.heap [] := va_S.rf
  have hl := lv_entry ([.int (nI n)]) (n := 1) (Nat.le_of_ble_eq_true rfl)
  rw [lg_entry_eq]
  generalize (lg_sl ([.int (nI n)]) ++ List.replicate (1 - (lg_sl ([.int (nI n)])).length) Slot.unset).toArray = ls at hl ⊢
  have hl : lv_has ls 1 [(0, .int (nI n))] := hl
  have hP : va_P (dC, dI) vwCl ([]) s.heap := hP
  refine lv_iload_n hx hb dX1_lengthSize_0 rfl (lv_at hl 0 rfl) ?_
  refine lv_sipush (v := nI 128) hx hb dX1_lengthSize_1 (by decide) ?_
  refine hl_icmp_ge (tgt := 9) hx hb dX1_lengthSize_4 (by decide) (by omega) (by omega) (fun c_1 => ?_) (fun c_1 => ?_)
  · refine lv_iload_n hx hb dX1_lengthSize_9 rfl (lv_at hl 0 rfl) ?_
    refine lv_sipush (v := nI 256) hx hb dX1_lengthSize_10 (by decide) ?_
    refine hl_icmp_ge (tgt := 20) hx hb dX1_lengthSize_13 (by decide) (by omega) (by omega) (fun c_2 => ?_) (fun c_2 => ?_)
    · refine lv_iconst (v := nI 3) hx hb dX1_lengthSize_20 (by decide) ?_
      have hP9 : va_P (dC, dI) vwCl (vX1_lengthSize cA n ()) _ := hP
      have hD9 : va_D A (vX1_lengthSize cA n ()) := hD
      have hq9 : pX1_lengthSize n (nI 3) () := congrArg nI (by unfold lenSz; (repeat' split) <;> omega)
      exact W.iret (v := nI 3) hx hb hr (fun t ht hW => ⟨⟨nI 3, (), rfl, hq9, by rw [ht]; exact hP9, va_K.moved hW.alike hK, hD9⟩, hS.F ht⟩) hS.2.2 dX1_lengthSize_21
    · refine lv_iconst (v := nI 2) hx hb dX1_lengthSize_16 (by decide) ?_
      refine lv_goto (tgt := 21) hx hb dX1_lengthSize_17 (by decide) ?_
      have hP9 : va_P (dC, dI) vwCl (vX1_lengthSize cA n ()) _ := hP
      have hD9 : va_D A (vX1_lengthSize cA n ()) := hD
      have hq9 : pX1_lengthSize n (nI 2) () := congrArg nI (by unfold lenSz; (repeat' split) <;> omega)
      exact W.iret (v := nI 2) hx hb hr (fun t ht hW => ⟨⟨nI 2, (), rfl, hq9, by rw [ht]; exact hP9, va_K.moved hW.alike hK, hD9⟩, hS.F ht⟩) hS.2.2 dX1_lengthSize_21
  · refine lv_iconst (v := nI 1) hx hb dX1_lengthSize_7 (by decide) ?_
    have hP9 : va_P (dC, dI) vwCl (vX1_lengthSize cA n ()) _ := hP
    have hD9 : va_D A (vX1_lengthSize cA n ()) := hD
    have hq9 : pX1_lengthSize n (nI 1) () := congrArg nI (by unfold lenSz; (repeat' split) <;> omega)
    exact W.iret (v := nI 1) hx hb hr (fun t ht hW => ⟨⟨nI 1, (), rfl, hq9, by rw [ht]; exact hP9, va_K.moved hW.alike hK, hD9⟩, hS.F ht⟩) hS.2.2 dX1_lengthSize_8
def okBool (f : Nat → Nat) (a n : Nat) : Bool := decide (n = 1 ∧ (f a = 0 ∨ f a = 255))
def okInt (f : Nat → Nat) (a n : Nat) : Bool := decide (0 < n ∧ (1 < n → ¬ (f a = 0 ∧ f (a + 1) < 128) ∧ ¬ (f a = 255 ∧ 128 ≤ f (a + 1))))
def okBits (f : Nat → Nat) (a n : Nat) : Bool := decide (0 < n ∧ (n = 1 → f a = 0) ∧ (1 < n → f a ≤ 7 ∧ f (a + n - 1) % 2 ^ (f a) = 0))
def obBeg (f : Nat → Nat) (a k : Nat) : Bool := decide (k = 0 ∨ f (a + k - 1) < 128)
def obPre (f : Nat → Nat) (a : Nat) : Nat → Bool
  | 0 => true
  | k + 1 => obPre f a k && !(obBeg f a k && decide (f (a + k) = 128))
def okObj (f : Nat → Nat) (a n : Nat) : Bool := decide (0 < n) && obPre f a n && decide (f (a + n - 1) < 128)
def okC (tag : Nat) (f : Nat → Nat) (a n : Nat) : Bool := if tag = 1 then okBool f a n else if tag = 2 then okInt f a n else if tag = 3 then okBits f a n else if tag = 5 then decide (n = 0) else if tag = 6 then okObj f a n else true
theorem bits_and : ∀ u, u < 8 → ∀ b, b < 256 → (nI b &&& ((nI 1 <<< (nI u &&& 31)) - nI 1) = 0 ↔ b % 2 ^ u = 0) := by decide +kernel
theorem bits_rem : ∀ u, u < 8 → ∀ b, b < 256 → (nI b - nI b / (nI 1 <<< (nI u &&& 31)) * (nI 1 <<< (nI u &&& 31)) = 0 ↔ b % 2 ^ u = 0) := by decide +kernel
theorem bits_ne0 : ∀ u, u < 8 → ¬ (nI 1 <<< (nI u &&& 31)) = 0 := by decide +kernel
abbrev pX1_isRightInteger (y0 : Nat) (yf : Nat → Nat) (a : Nat) (n : Nat) : Int32 → Unit → Prop := fun (r : Int32) (u : Unit) => r = if okInt yf a n = true then 1 else 0
abbrev vX1_isRightInteger (cA : ClassId) (y0 : Nat) (yf : Nat → Nat) (a : Nat) (n : Nat) : Unit → va_W := fun (u : Unit) => wA cA y0 yf
abbrev qX1_isRightInteger (dC : Nat → ClassId) (dI : Nat → Nat → Nat) (cA : ClassId) (A : Nat → Prop) (y0 : Nat) (yf : Nat → Nat) (a : Nat) (n : Nat) : Array Value → State → Outcome → State → Prop := va_Qi (pX1_isRightInteger y0 yf a n) (fun u => cAft dC dI cA A (vX1_isRightInteger cA y0 yf a n u)) A
set_option maxHeartbeats 4000000 in
set_option maxRecDepth 100000 in
theorem k_X1_isRightInteger (l : Launch) (dC : Nat → ClassId) (dI : Nat → Nat → Nat) (cA : ClassId) (y0 : Nat) (yf : Nat → Nat) (a : Nat) (n : Nat) (sz : Nat) (hyf : ∀ j, yf j < 256) (han : a + n ≤ 300) : Met l yX1_isRightInteger wsX1_isRightInteger ({ frames := 0, cells := 0, slots := 0, locals := 0 } : Room) (va_Pc [.ref y0, .int (nI a), .int (nI n)] (cPre dC dI cA (wA cA y0 yf) sz)) (qX1_isRightInteger dC dI cA (va_A (wA cA y0 yf) sz) y0 yf a n) 0 0 (va_A (wA cA y0 yf) sz) := by
  refine Met.ofW (cc := cX1_isRightInteger) (maxL := 4) (ret := (some .boolean)) (by decide) rfl ?_
  intro p e s m args below meth c s₁ B hml hv
  obtain ⟨rfl, hsz, hP, hK, hD0⟩ := hv
  have hx := B.exec
  have hb := B.bytes
  have hr := B.returns
  have hts := atoms_spec (ws := wsX1_isRightInteger) B.pre
  have hown : s.vm.findClass RX1 = some m.cls := findClass_of_methodNamed B.named
  have hlocks := B.notSynchronized
  subst hsz
  have hD := hD0.self (sz := s.heap.size)
  generalize hAe : va_A (wA cA y0 yf) s.heap.size = A at hD ⊢
  have hA : ∀ q : Nat, s.heap.size ≤ q → A q := fun q h => by rw [← hAe]; exact Or.inr h
  have hS : va_S A s.heap s.heap [] := va_S.rf
  have hl := lv_entry ([.ref y0, .int (nI a), .int (nI n)]) (n := 4) (Nat.le_of_ble_eq_true rfl)
  rw [lg_entry_eq]
  generalize (lg_sl ([.ref y0, .int (nI a), .int (nI n)]) ++ List.replicate (4 - (lg_sl ([.ref y0, .int (nI a), .int (nI n)])).length) Slot.unset).toArray = ls at hl ⊢
  have hl : lv_has ls 4 [(0, .ref y0), (1, .int (nI a)), (2, .int (nI n))] := hl
  have hP : va_P (dC, dI) vwCl (wA cA y0 yf) s.heap := hP
  refine lv_iload_n hx hb dX1_isRightInteger_0 rfl (lv_at hl 2 rfl) ?_
  refine lv_iconst (v := nI 2) hx hb dX1_isRightInteger_1 (by decide) ?_
  refine hl_icmp_ge (tgt := 16) hx hb dX1_isRightInteger_2 (by decide) (by omega) (by omega) (fun c_1 => ?_) (fun c_1 => ?_)
  · refine lv_aload_n hx hb dX1_isRightInteger_16 rfl (lv_at hl 0 rfl) ?_
    refine lv_iload_n hx hb dX1_isRightInteger_17 rfl (lv_at hl 1 rfl) ?_
    refine lv_iconst (v := nI 1) hx hb dX1_isRightInteger_18 (by decide) ?_
    refine hl_iadd hx hb dX1_isRightInteger_19 ?_
    refine hl_iald hx hb hK hP 0 0 rfl rfl (by omega) (by decide) dX1_isRightInteger_20 ?_
    have hv_2 := hyf (a + 1)
    refine lv_sipush (v := nI 128) hx hb dX1_isRightInteger_21 (by decide) ?_
    refine hl_icmp_lt (tgt := 31) hx hb dX1_isRightInteger_24 (by decide) (by omega) (by omega) (fun c_3 => ?_) (fun c_3 => ?_)
    · refine lv_iconst (v := nI 0) hx hb dX1_isRightInteger_31 (by decide) ?_
      refine lv_istore_n (lv' := [(3, .int (nI 0)), (0, .ref y0), (1, .int (nI a)), (2, .int (nI n))]) hx hb dX1_isRightInteger_32 rfl hl (by decide) rfl (fun ls hl => ?_)
      refine lv_aload_n hx hb dX1_isRightInteger_33 rfl (lv_at hl 1 rfl) ?_
      refine lv_iload_n hx hb dX1_isRightInteger_34 rfl (lv_at hl 2 rfl) ?_
      refine hl_iald hx hb hK hP 0 0 rfl rfl (by omega) (by decide) dX1_isRightInteger_35 ?_
      have hv_4 := hyf a
      refine lv_iload_n hx hb dX1_isRightInteger_36 rfl (lv_at hl 0 rfl) ?_
      refine hl_if_eq (tgt := 46) hx hb dX1_isRightInteger_37 (by decide) (by omega) (fun c_5 => ?_) (fun c_5 => absurd c_5 (by decide))
      refine lv_iconst (v := nI 0) hx hb dX1_isRightInteger_46 (by decide) ?_
      refine hl_icmp_eq (tgt := 54) hx hb dX1_isRightInteger_47 (by decide) (by omega) (by omega) (fun c_6 => ?_) (fun c_6 => ?_)
      · refine lv_iconst (v := nI 0) hx hb dX1_isRightInteger_54 (by decide) ?_
        have hP9 : va_P (dC, dI) vwCl (vX1_isRightInteger cA y0 yf a n ()) _ := hP
        have hD9 : va_D A (vX1_isRightInteger cA y0 yf a n ()) := hD
        have hq9 : pX1_isRightInteger y0 yf a n (nI 0) () := (if_neg (by simp only [okInt, decide_eq_true_eq]; omega)).symm
        exact W.zret (v := nI 0) hx hb hr rfl (fun t ht hW => ⟨⟨nI 0, (), rfl, hq9, by rw [ht]; exact hP9, va_K.moved hW.alike hK, hD9⟩, hS.F ht⟩) hS.2.2 dX1_isRightInteger_55
      · refine lv_iconst (v := nI 1) hx hb dX1_isRightInteger_50 (by decide) ?_
        refine lv_goto (tgt := 55) hx hb dX1_isRightInteger_51 (by decide) ?_
        have hP9 : va_P (dC, dI) vwCl (vX1_isRightInteger cA y0 yf a n ()) _ := hP
        have hD9 : va_D A (vX1_isRightInteger cA y0 yf a n ()) := hD
        have hq9 : pX1_isRightInteger y0 yf a n (nI 1) () := (if_pos (by simp only [okInt, decide_eq_true_eq]; omega)).symm
        exact W.zret (v := nI 1) hx hb hr rfl (fun t ht hW => ⟨⟨nI 1, (), rfl, hq9, by rw [ht]; exact hP9, va_K.moved hW.alike hK, hD9⟩, hS.F ht⟩) hS.2.2 dX1_isRightInteger_55
    · refine lv_iconst (v := nI 1) hx hb dX1_isRightInteger_27 (by decide) ?_
      refine lv_goto (tgt := 32) hx hb dX1_isRightInteger_28 (by decide) ?_
      refine lv_istore_n (lv' := [(3, .int (nI 1)), (0, .ref y0), (1, .int (nI a)), (2, .int (nI n))]) hx hb dX1_isRightInteger_32 rfl hl (by decide) rfl (fun ls hl => ?_)
      refine lv_aload_n hx hb dX1_isRightInteger_33 rfl (lv_at hl 1 rfl) ?_
      refine lv_iload_n hx hb dX1_isRightInteger_34 rfl (lv_at hl 2 rfl) ?_
      refine hl_iald hx hb hK hP 0 0 rfl rfl (by omega) (by decide) dX1_isRightInteger_35 ?_
      have hv_7 := hyf a
      refine lv_iload_n hx hb dX1_isRightInteger_36 rfl (lv_at hl 0 rfl) ?_
      refine hl_if_eq (tgt := 46) hx hb dX1_isRightInteger_37 (by decide) (by omega) (fun c_8 => absurd c_8 (by decide)) (fun c_8 => ?_)
      refine lv_sipush (v := nI 255) hx hb dX1_isRightInteger_40 (by decide) ?_
      refine lv_goto (tgt := 47) hx hb dX1_isRightInteger_43 (by decide) ?_
      refine hl_icmp_eq (tgt := 54) hx hb dX1_isRightInteger_47 (by decide) (by omega) (by omega) (fun c_9 => ?_) (fun c_9 => ?_)
      · refine lv_iconst (v := nI 0) hx hb dX1_isRightInteger_54 (by decide) ?_
        have hP9 : va_P (dC, dI) vwCl (vX1_isRightInteger cA y0 yf a n ()) _ := hP
        have hD9 : va_D A (vX1_isRightInteger cA y0 yf a n ()) := hD
        have hq9 : pX1_isRightInteger y0 yf a n (nI 0) () := (if_neg (by simp only [okInt, decide_eq_true_eq]; omega)).symm
        exact W.zret (v := nI 0) hx hb hr rfl (fun t ht hW => ⟨⟨nI 0, (), rfl, hq9, by rw [ht]; exact hP9, va_K.moved hW.alike hK, hD9⟩, hS.F ht⟩) hS.2.2 dX1_isRightInteger_55
      · refine lv_iconst (v := nI 1) hx hb dX1_isRightInteger_50 (by decide) ?_
        refine lv_goto (tgt := 55) hx hb dX1_isRightInteger_51 (by decide) ?_
        have hP9 : va_P (dC, dI) vwCl (vX1_isRightInteger cA y0 yf a n ()) _ := hP
        have hD9 : va_D A (vX1_isRightInteger cA y0 yf a n ()) := hD
        have hq9 : pX1_isRightInteger y0 yf a n (nI 1) () := (if_pos (by simp only [okInt, decide_eq_true_eq]; omega)).symm
        exact W.zret (v := nI 1) hx hb hr rfl (fun t ht hW => ⟨⟨nI 1, (), rfl, hq9, by rw [ht]; exact hP9, va_K.moved hW.alike hK, hD9⟩, hS.F ht⟩) hS.2.2 dX1_isRightInteger_55
  · refine lv_iload_n hx hb dX1_isRightInteger_5 rfl (lv_at hl 2 rfl) ?_
    refine lv_iconst (v := nI 1) hx hb dX1_isRightInteger_6 (by decide) ?_
    refine hl_icmp_ne (tgt := 14) hx hb dX1_isRightInteger_7 (by decide) (by omega) (by omega) (fun c_10 => ?_) (fun c_10 => ?_)
    · refine lv_iconst (v := nI 0) hx hb dX1_isRightInteger_14 (by decide) ?_
      have hP9 : va_P (dC, dI) vwCl (vX1_isRightInteger cA y0 yf a n ()) _ := hP
      have hD9 : va_D A (vX1_isRightInteger cA y0 yf a n ()) := hD
      have hq9 : pX1_isRightInteger y0 yf a n (nI 0) () := (if_neg (by simp only [okInt, decide_eq_true_eq]; omega)).symm
      exact W.zret (v := nI 0) hx hb hr rfl (fun t ht hW => ⟨⟨nI 0, (), rfl, hq9, by rw [ht]; exact hP9, va_K.moved hW.alike hK, hD9⟩, hS.F ht⟩) hS.2.2 dX1_isRightInteger_15
    · refine lv_iconst (v := nI 1) hx hb dX1_isRightInteger_10 (by decide) ?_
      refine lv_goto (tgt := 15) hx hb dX1_isRightInteger_11 (by decide) ?_
      have hP9 : va_P (dC, dI) vwCl (vX1_isRightInteger cA y0 yf a n ()) _ := hP
      have hD9 : va_D A (vX1_isRightInteger cA y0 yf a n ()) := hD
      have hq9 : pX1_isRightInteger y0 yf a n (nI 1) () := (if_pos (by simp only [okInt, decide_eq_true_eq]; omega)).symm
      exact W.zret (v := nI 1) hx hb hr rfl (fun t ht hW => ⟨⟨nI 1, (), rfl, hq9, by rw [ht]; exact hP9, va_K.moved hW.alike hK, hD9⟩, hS.F ht⟩) hS.2.2 dX1_isRightInteger_15
abbrev pX1_isRightBits (y0 : Nat) (yf : Nat → Nat) (a : Nat) (n : Nat) : Int32 → Unit → Prop := fun (r : Int32) (u : Unit) => r = if okBits yf a n = true then 1 else 0
abbrev vX1_isRightBits (cA : ClassId) (y0 : Nat) (yf : Nat → Nat) (a : Nat) (n : Nat) : Unit → va_W := fun (u : Unit) => wA cA y0 yf
abbrev qX1_isRightBits (dC : Nat → ClassId) (dI : Nat → Nat → Nat) (cA : ClassId) (A : Nat → Prop) (y0 : Nat) (yf : Nat → Nat) (a : Nat) (n : Nat) : Array Value → State → Outcome → State → Prop := va_Qi (pX1_isRightBits y0 yf a n) (fun u => cAft dC dI cA A (vX1_isRightBits cA y0 yf a n u)) A
set_option maxHeartbeats 4000000 in
set_option maxRecDepth 100000 in
theorem k_X1_isRightBits (l : Launch) (dC : Nat → ClassId) (dI : Nat → Nat → Nat) (cA : ClassId) (y0 : Nat) (yf : Nat → Nat) (a : Nat) (n : Nat) (sz : Nat) (hyf : ∀ j, yf j < 256) (han : a + n ≤ 300) : Met l yX1_isRightBits wsX1_isRightBits ({ frames := 0, cells := 0, slots := 0, locals := 0 } : Room) (va_Pc [.ref y0, .int (nI a), .int (nI n)] (cPre dC dI cA (wA cA y0 yf) sz)) (qX1_isRightBits dC dI cA (va_A (wA cA y0 yf) sz) y0 yf a n) 0 0 (va_A (wA cA y0 yf) sz) := by
  refine Met.ofW (cc := cX1_isRightBits) (maxL := 5) (ret := (some .boolean)) (by decide) rfl ?_
  intro p e s m args below meth c s₁ B hml hv
  obtain ⟨rfl, hsz, hP, hK, hD0⟩ := hv
  have hx := B.exec
  have hb := B.bytes
  have hr := B.returns
  have hts := atoms_spec (ws := wsX1_isRightBits) B.pre
  have hown : s.vm.findClass RX1 = some m.cls := findClass_of_methodNamed B.named
  have hlocks := B.notSynchronized
  subst hsz
  have hD := hD0.self (sz := s.heap.size)
  generalize hAe : va_A (wA cA y0 yf) s.heap.size = A at hD ⊢
  have hA : ∀ q : Nat, s.heap.size ≤ q → A q := fun q h => by rw [← hAe]; exact Or.inr h
  have hS : va_S A s.heap s.heap [] := va_S.rf
  have hl := lv_entry ([.ref y0, .int (nI a), .int (nI n)]) (n := 5) (Nat.le_of_ble_eq_true rfl)
  rw [lg_entry_eq]
  generalize (lg_sl ([.ref y0, .int (nI a), .int (nI n)]) ++ List.replicate (5 - (lg_sl ([.ref y0, .int (nI a), .int (nI n)])).length) Slot.unset).toArray = ls at hl ⊢
  have hl : lv_has ls 5 [(0, .ref y0), (1, .int (nI a)), (2, .int (nI n))] := hl
  have hP : va_P (dC, dI) vwCl (wA cA y0 yf) s.heap := hP
  refine lv_iload_n hx hb dX1_isRightBits_0 rfl (lv_at hl 2 rfl) ?_
  refine lv_iconst (v := nI 1) hx hb dX1_isRightBits_1 (by decide) ?_
  refine hl_icmp_ge (tgt := 7) hx hb dX1_isRightBits_2 (by decide) (by omega) (by omega) (fun c_1 => ?_) (fun c_1 => ?_)
  · refine lv_aload_n hx hb dX1_isRightBits_7 rfl (lv_at hl 0 rfl) ?_
    refine lv_iload_n hx hb dX1_isRightBits_8 rfl (lv_at hl 1 rfl) ?_
    refine hl_iald hx hb hK hP 0 0 rfl rfl (by omega) (by decide) dX1_isRightBits_9 ?_
    have hv_2 := hyf a
    refine lv_istore_n (lv' := [(3, .int (nI (yf a))), (0, .ref y0), (1, .int (nI a)), (2, .int (nI n))]) hx hb dX1_isRightBits_10 rfl hl (by decide) rfl (fun ls hl => ?_)
    refine lv_iload_n hx hb dX1_isRightBits_11 rfl (lv_at hl 3 rfl) ?_
    refine lv_iconst (v := nI 1) hx hb dX1_isRightBits_12 (by decide) ?_
    refine hl_icmp_eq (tgt := 22) hx hb dX1_isRightBits_13 (by decide) (by omega) (by omega) (fun c_3 => ?_) (fun c_3 => ?_)
    · refine lv_iload_n hx hb dX1_isRightBits_22 rfl (lv_at hl 0 rfl) ?_
      refine hl_if_ne (tgt := 30) hx hb dX1_isRightBits_23 (by decide) (by omega) (fun c_4 => ?_) (fun c_4 => ?_)
      · refine lv_iconst (v := nI 0) hx hb dX1_isRightBits_30 (by decide) ?_
        have hP9 : va_P (dC, dI) vwCl (vX1_isRightBits cA y0 yf a n ()) _ := hP
        have hD9 : va_D A (vX1_isRightBits cA y0 yf a n ()) := hD
        have hq9 : pX1_isRightBits y0 yf a n (nI 0) () := (if_neg (by simp only [okBits, decide_eq_true_eq]; first | omega | grind)).symm
        exact W.zret (v := nI 0) hx hb hr rfl (fun t ht hW => ⟨⟨nI 0, (), rfl, hq9, by rw [ht]; exact hP9, va_K.moved hW.alike hK, hD9⟩, hS.F ht⟩) hS.2.2 dX1_isRightBits_31
      · refine lv_iconst (v := nI 1) hx hb dX1_isRightBits_26 (by decide) ?_
        refine lv_goto (tgt := 31) hx hb dX1_isRightBits_27 (by decide) ?_
        have hP9 : va_P (dC, dI) vwCl (vX1_isRightBits cA y0 yf a n ()) _ := hP
        have hD9 : va_D A (vX1_isRightBits cA y0 yf a n ()) := hD
        have hq9 : pX1_isRightBits y0 yf a n (nI 1) () := (if_pos (by simp only [okBits, decide_eq_true_eq]; first | omega | grind)).symm
        exact W.zret (v := nI 1) hx hb hr rfl (fun t ht hW => ⟨⟨nI 1, (), rfl, hq9, by rw [ht]; exact hP9, va_K.moved hW.alike hK, hD9⟩, hS.F ht⟩) hS.2.2 dX1_isRightBits_31
    · refine lv_iload_n hx hb dX1_isRightBits_16 rfl (lv_at hl 0 rfl) ?_
      refine lv_bipush (v := nI 7) hx hb dX1_isRightBits_17 (by decide) ?_
      refine hl_icmp_le (tgt := 32) hx hb dX1_isRightBits_19 (by decide) (by omega) (by omega) (fun c_5 => ?_) (fun c_5 => ?_)
      · refine lv_iconst (v := nI 1) hx hb dX1_isRightBits_32 (by decide) ?_
        refine lv_iload_n hx hb dX1_isRightBits_33 rfl (lv_at hl 0 rfl) ?_
        refine lv_ishl hx hb dX1_isRightBits_34 ?_
        refine lv_iconst (v := nI 1) hx hb dX1_isRightBits_35 (by decide) ?_
        refine lv_isub hx hb dX1_isRightBits_36 ?_
        refine lv_istore (lv' := [(4, .int ((nI 1 <<< (nI (yf a) &&& 31)) - nI 1)), (3, .int (nI (yf a))), (0, .ref y0), (1, .int (nI a)), (2, .int (nI n))]) hx hb dX1_isRightBits_37 hl (by decide) rfl (fun ls hl => ?_)
        refine lv_aload_n hx hb dX1_isRightBits_39 rfl (lv_at hl 2 rfl) ?_
        refine lv_iload_n hx hb dX1_isRightBits_40 rfl (lv_at hl 3 rfl) ?_
        refine lv_iload_n hx hb dX1_isRightBits_41 rfl (lv_at hl 4 rfl) ?_
        refine hl_iadd hx hb dX1_isRightBits_42 ?_
        refine lv_iconst (v := nI 1) hx hb dX1_isRightBits_43 (by decide) ?_
        refine hl_isub hx hb (by omega) dX1_isRightBits_44 ?_
        refine hl_iald hx hb hK hP 0 0 rfl rfl (by omega) (by decide) dX1_isRightBits_45 ?_
        have hv_6 := hyf ((a + n) - 1)
        refine lv_iload hx hb dX1_isRightBits_46 (lv_at hl 0 rfl) ?_
        refine lv_iand hx hb dX1_isRightBits_48 ?_
        refine lv_if_ne (tgt := 56) hx hb dX1_isRightBits_49 (by decide) (fun c_7 => ?_) (fun c_7 => ?_)
        · have c_7 := fun h => c_7 ((bits_and _ (by omega) _ (hyf _)).mpr h)
          refine lv_iconst (v := nI 0) hx hb dX1_isRightBits_56 (by decide) ?_
          have hP9 : va_P (dC, dI) vwCl (vX1_isRightBits cA y0 yf a n ()) _ := hP
          have hD9 : va_D A (vX1_isRightBits cA y0 yf a n ()) := hD
          have hq9 : pX1_isRightBits y0 yf a n (nI 0) () := (if_neg (by simp only [okBits, decide_eq_true_eq]; first | omega | grind)).symm
          exact W.zret (v := nI 0) hx hb hr rfl (fun t ht hW => ⟨⟨nI 0, (), rfl, hq9, by rw [ht]; exact hP9, va_K.moved hW.alike hK, hD9⟩, hS.F ht⟩) hS.2.2 dX1_isRightBits_57
        · have c_7 := (bits_and _ (by omega) _ (hyf _)).mp c_7
          refine lv_iconst (v := nI 1) hx hb dX1_isRightBits_52 (by decide) ?_
          refine lv_goto (tgt := 57) hx hb dX1_isRightBits_53 (by decide) ?_
          have hP9 : va_P (dC, dI) vwCl (vX1_isRightBits cA y0 yf a n ()) _ := hP
          have hD9 : va_D A (vX1_isRightBits cA y0 yf a n ()) := hD
          have hq9 : pX1_isRightBits y0 yf a n (nI 1) () := (if_pos (by simp only [okBits, decide_eq_true_eq]; first | omega | grind)).symm
          exact W.zret (v := nI 1) hx hb hr rfl (fun t ht hW => ⟨⟨nI 1, (), rfl, hq9, by rw [ht]; exact hP9, va_K.moved hW.alike hK, hD9⟩, hS.F ht⟩) hS.2.2 dX1_isRightBits_57
      · refine lv_iload_n hx hb dX1_isRightBits_22 rfl (lv_at hl 0 rfl) ?_
        refine hl_if_ne (tgt := 30) hx hb dX1_isRightBits_23 (by decide) (by omega) (fun c_8 => ?_) (fun c_8 => ?_)
        · refine lv_iconst (v := nI 0) hx hb dX1_isRightBits_30 (by decide) ?_
          have hP9 : va_P (dC, dI) vwCl (vX1_isRightBits cA y0 yf a n ()) _ := hP
          have hD9 : va_D A (vX1_isRightBits cA y0 yf a n ()) := hD
          have hq9 : pX1_isRightBits y0 yf a n (nI 0) () := (if_neg (by simp only [okBits, decide_eq_true_eq]; first | omega | grind)).symm
          exact W.zret (v := nI 0) hx hb hr rfl (fun t ht hW => ⟨⟨nI 0, (), rfl, hq9, by rw [ht]; exact hP9, va_K.moved hW.alike hK, hD9⟩, hS.F ht⟩) hS.2.2 dX1_isRightBits_31
        · refine lv_iconst (v := nI 1) hx hb dX1_isRightBits_26 (by decide) ?_
          refine lv_goto (tgt := 31) hx hb dX1_isRightBits_27 (by decide) ?_
          have hP9 : va_P (dC, dI) vwCl (vX1_isRightBits cA y0 yf a n ()) _ := hP
          have hD9 : va_D A (vX1_isRightBits cA y0 yf a n ()) := hD
          have hq9 : pX1_isRightBits y0 yf a n (nI 1) () := (if_pos (by simp only [okBits, decide_eq_true_eq]; first | omega | grind)).symm
          exact W.zret (v := nI 1) hx hb hr rfl (fun t ht hW => ⟨⟨nI 1, (), rfl, hq9, by rw [ht]; exact hP9, va_K.moved hW.alike hK, hD9⟩, hS.F ht⟩) hS.2.2 dX1_isRightBits_31
  · refine lv_iconst (v := nI 0) hx hb dX1_isRightBits_5 (by decide) ?_
    have hP9 : va_P (dC, dI) vwCl (vX1_isRightBits cA y0 yf a n ()) _ := hP
    have hD9 : va_D A (vX1_isRightBits cA y0 yf a n ()) := hD
    have hq9 : pX1_isRightBits y0 yf a n (nI 0) () := (if_neg (by simp only [okBits, decide_eq_true_eq]; first | omega | grind)).symm
    exact W.zret (v := nI 0) hx hb hr rfl (fun t ht hW => ⟨⟨nI 0, (), rfl, hq9, by rw [ht]; exact hP9, va_K.moved hW.alike hK, hD9⟩, hS.F ht⟩) hS.2.2 dX1_isRightBits_6
theorem ob_step {f : Nat → Nat} {a i : Nat} (hai : a ≤ i) (h : obPre f a (i - a) = true) (h2 : ¬ (obBeg f a (i - a) = true ∧ f i = 128)) : obPre f a (i + 1 - a) = true := by
  rw [show i + 1 - a = (i - a) + 1 by omega]
  show (obPre f a (i - a) && !(obBeg f a (i - a) && decide (f (a + (i - a)) = 128))) = true
  rw [show a + (i - a) = i by omega, h]
  by_cases q : obBeg f a (i - a) = true
  · have : ¬ f i = 128 := fun z => h2 ⟨q, z⟩
    simp [this]
  · simp [q]
theorem ob_beg {f : Nat → Nat} {a i : Nat} (hai : a ≤ i) : obBeg f a (i + 1 - a) = decide (f i < 128) := by
  unfold obBeg
  rw [show a + (i + 1 - a) - 1 = i by omega]
  simp
  omega
theorem ob_all {f : Nat → Nat} {a : Nat} : ∀ n, obPre f a n = true → ∀ k, k < n → obBeg f a k = true → f (a + k) = 128 → False
  | 0, _, k, hk, _, _ => absurd hk (Nat.not_lt_zero k)
  | n + 1, h, k, hk, hb, hf => by
    have h : (obPre f a n && !(obBeg f a n && decide (f (a + n) = 128))) = true := h
    rw [Bool.and_eq_true] at h
    by_cases e : k = n
    · subst e
      rw [hb] at h
      simp [hf] at h
    · exact ob_all n h.1 k (by omega) hb hf
theorem ob_neg {f : Nat → Nat} {a n i : Nat} (hai : a ≤ i) (hin : i < a + n) (hb : obBeg f a (i - a) = true) (hf : f i = 128) : ¬ okObj f a n = true := by
  intro h
  simp only [okObj, Bool.and_eq_true, decide_eq_true_eq] at h
  exact ob_all n h.1.2 (i - a) (by omega) hb (by rw [show a + (i - a) = i by omega]; exact hf)
theorem ob_fin1 {f : Nat → Nat} {a n : Nat} (hn : 0 < n) (hp : obPre f a n = true) (hb : obBeg f a n = true) : okObj f a n = true := by
  simp only [okObj, Bool.and_eq_true, decide_eq_true_eq]
  simp only [obBeg, decide_eq_true_eq] at hb
  exact ⟨⟨hn, hp⟩, by omega⟩
theorem ob_fin0 {f : Nat → Nat} {a n : Nat} (h : n = 0 ∨ ¬ obBeg f a n = true) : ¬ okObj f a n = true := by
  intro q
  simp only [okObj, Bool.and_eq_true, decide_eq_true_eq] at q
  rcases h with h | h
  · omega
  · apply h
    simp only [obBeg, decide_eq_true_eq]
    omega
abbrev pX1_isRightObject (y0 : Nat) (yf : Nat → Nat) (a : Nat) (n : Nat) : Int32 → Unit → Prop := fun (r : Int32) (u : Unit) => r = if okObj yf a n = true then 1 else 0
abbrev vX1_isRightObject (cA : ClassId) (y0 : Nat) (yf : Nat → Nat) (a : Nat) (n : Nat) : Unit → va_W := fun (u : Unit) => wA cA y0 yf
abbrev qX1_isRightObject (dC : Nat → ClassId) (dI : Nat → Nat → Nat) (cA : ClassId) (A : Nat → Prop) (y0 : Nat) (yf : Nat → Nat) (a : Nat) (n : Nat) : Array Value → State → Outcome → State → Prop := va_Qi (pX1_isRightObject y0 yf a n) (fun u => cAft dC dI cA A (vX1_isRightObject cA y0 yf a n u)) A
set_option maxHeartbeats 4000000 in
set_option maxRecDepth 100000 in
theorem k_X1_isRightObject (l : Launch) (dC : Nat → ClassId) (dI : Nat → Nat → Nat) (cA : ClassId) (y0 : Nat) (yf : Nat → Nat) (a : Nat) (n : Nat) (sz : Nat) (hyf : ∀ j, yf j < 256) (han : a + n ≤ 300) : Met l yX1_isRightObject wsX1_isRightObject ({ frames := 0, cells := 0, slots := 0, locals := 0 } : Room) (va_Pc [.ref y0, .int (nI a), .int (nI n)] (cPre dC dI cA (wA cA y0 yf) sz)) (qX1_isRightObject dC dI cA (va_A (wA cA y0 yf) sz) y0 yf a n) 0 0 (va_A (wA cA y0 yf) sz) := by
  refine Met.ofW (cc := cX1_isRightObject) (maxL := 5) (ret := (some .boolean)) (by decide) rfl ?_
  intro p e s m args below meth c s₁ B hml hv
  obtain ⟨rfl, hsz, hP, hK, hD0⟩ := hv
  have hx := B.exec
  have hb := B.bytes
  have hr := B.returns
  have hts := atoms_spec (ws := wsX1_isRightObject) B.pre
  have hown : s.vm.findClass RX1 = some m.cls := findClass_of_methodNamed B.named
  have hlocks := B.notSynchronized
  subst hsz
  have hD := hD0.self (sz := s.heap.size)
  generalize hAe : va_A (wA cA y0 yf) s.heap.size = A at hD ⊢
  have hA : ∀ q : Nat, s.heap.size ≤ q → A q := fun q h => by rw [← hAe]; exact Or.inr h
  have hS : va_S A s.heap s.heap [] := va_S.rf
  have hl := lv_entry ([.ref y0, .int (nI a), .int (nI n)]) (n := 5) (Nat.le_of_ble_eq_true rfl)
  rw [lg_entry_eq]
  generalize (lg_sl ([.ref y0, .int (nI a), .int (nI n)]) ++ List.replicate (5 - (lg_sl ([.ref y0, .int (nI a), .int (nI n)])).length) Slot.unset).toArray = ls at hl ⊢
  have hl : lv_has ls 5 [(0, .ref y0), (1, .int (nI a)), (2, .int (nI n))] := hl
  have hP : va_P (dC, dI) vwCl (wA cA y0 yf) s.heap := hP
  refine lv_iconst (v := nI 1) hx hb dX1_isRightObject_0 (by decide) ?_
  refine lv_istore_n (lv' := [(3, .int (nI 1)), (0, .ref y0), (1, .int (nI a)), (2, .int (nI n))]) hx hb dX1_isRightObject_1 rfl hl (by decide) rfl (fun ls hl => ?_)
  refine lv_iload_n hx hb dX1_isRightObject_2 rfl (lv_at hl 2 rfl) ?_
  refine lv_istore (lv' := [(4, .int (nI a)), (3, .int (nI 1)), (0, .ref y0), (1, .int (nI a)), (2, .int (nI n))]) hx hb dX1_isRightObject_3 hl (by decide) rfl (fun ls hl => ?_)
  have lp_5 : ∀ (nf : Nat) (i : Nat) (pb : Nat), a + n - i < nf → (a ≤ i) → (i ≤ a + n) → (obPre yf a (i - a) = true) → (pb = if obBeg yf a (i - a) = true then 1 else 0) → ∀ (H : Heap) (locs : List Loc) (ls : Array Slot), va_P (dC, dI) vwCl (wA cA y0 yf) H → va_D A (wA cA y0 yf) → va_S A s.heap H locs → lv_has ls 5 [(4, .int (nI i)), (3, .int (nI pb)), (0, .ref y0), (1, .int (nI a)), (2, .int (nI n))] → W p l e (headSpec wsX1_isRightObject ({ frames := 0, cells := 0, slots := 0, locals := 0 } : Room)).room s m ([.ref y0, .int (nI a), .int (nI n)] : List Value).toArray below meth c H locs 0 0 (MQ below (qX1_isRightObject dC dI cA A y0 yf a n) ([.ref y0, .int (nI a), .int (nI n)] : List Value).toArray s 0 0 A) (F0 m 5 ls []) := by
    intro nf
    induction nf with
    | zero =>
      intro i pb hm
      exact absurd hm (Nat.not_lt_zero _)
    | succ nf ih_5 =>
      intro i pb hm hai hin hpre hpb H locs ls hP hD hS hl
      have hpb1 : pb < 2 := by rw [hpb]; split <;> omega
      refine lv_iload hx hb dX1_isRightObject_5 (lv_at hl 0 rfl) ?_
      refine lv_iload_n hx hb dX1_isRightObject_7 rfl (lv_at hl 3 rfl) ?_
      refine lv_iload_n hx hb dX1_isRightObject_8 rfl (lv_at hl 4 rfl) ?_
      refine hl_iadd hx hb dX1_isRightObject_9 ?_
      refine hl_icmp_ge (tgt := 51) hx hb dX1_isRightObject_10 (by decide) (by omega) (by omega) (fun c_2 => ?_) (fun c_2 => ?_)
      · refine lv_iload_n hx hb dX1_isRightObject_51 rfl (lv_at hl 4 rfl) ?_
        refine hl_if_le (tgt := 63) hx hb dX1_isRightObject_52 (by decide) (by omega) (fun c_3 => ?_) (fun c_3 => ?_)
        · refine lv_iconst (v := nI 0) hx hb dX1_isRightObject_63 (by decide) ?_
          have hP9 : va_P (dC, dI) vwCl (vX1_isRightObject cA y0 yf a n ()) _ := hP
          have hD9 : va_D A (vX1_isRightObject cA y0 yf a n ()) := hD
          have hq9 : pX1_isRightObject y0 yf a n (nI 0) () := (if_neg (ob_fin0 (by have ei : i - a = n := (by omega); rw [ei] at hpb; by_cases q : obBeg yf a n = true; left; rw [if_pos q] at hpb; omega; exact Or.inr q))).symm
          exact W.zret (v := nI 0) hx hb hr rfl (fun t ht hW => ⟨⟨nI 0, (), rfl, hq9, by rw [ht]; exact hP9, va_K.moved hW.alike hK, hD9⟩, hS.F ht⟩) hS.2.2 dX1_isRightObject_64
        · refine lv_iload_n hx hb dX1_isRightObject_55 rfl (lv_at hl 1 rfl) ?_
          refine hl_if_eq (tgt := 63) hx hb dX1_isRightObject_56 (by decide) (by omega) (fun c_4 => ?_) (fun c_4 => ?_)
          · refine lv_iconst (v := nI 0) hx hb dX1_isRightObject_63 (by decide) ?_
            have hP9 : va_P (dC, dI) vwCl (vX1_isRightObject cA y0 yf a n ()) _ := hP
            have hD9 : va_D A (vX1_isRightObject cA y0 yf a n ()) := hD
            have hq9 : pX1_isRightObject y0 yf a n (nI 0) () := (if_neg (ob_fin0 (by have ei : i - a = n := (by omega); rw [ei] at hpb; by_cases q : obBeg yf a n = true; left; rw [if_pos q] at hpb; omega; exact Or.inr q))).symm
            exact W.zret (v := nI 0) hx hb hr rfl (fun t ht hW => ⟨⟨nI 0, (), rfl, hq9, by rw [ht]; exact hP9, va_K.moved hW.alike hK, hD9⟩, hS.F ht⟩) hS.2.2 dX1_isRightObject_64
          · refine lv_iconst (v := nI 1) hx hb dX1_isRightObject_59 (by decide) ?_
            refine lv_goto (tgt := 64) hx hb dX1_isRightObject_60 (by decide) ?_
            have hP9 : va_P (dC, dI) vwCl (vX1_isRightObject cA y0 yf a n ()) _ := hP
            have hD9 : va_D A (vX1_isRightObject cA y0 yf a n ()) := hD
            have hq9 : pX1_isRightObject y0 yf a n (nI 1) () := (if_pos (by have ei : i - a = n := (by omega); rw [ei] at hpb hpre; exact ob_fin1 (by omega) hpre (by by_cases q : obBeg yf a n = true; exact q; rw [if_neg q] at hpb; omega))).symm
            exact W.zret (v := nI 1) hx hb hr rfl (fun t ht hW => ⟨⟨nI 1, (), rfl, hq9, by rw [ht]; exact hP9, va_K.moved hW.alike hK, hD9⟩, hS.F ht⟩) hS.2.2 dX1_isRightObject_64
      · refine lv_iload_n hx hb dX1_isRightObject_13 rfl (lv_at hl 1 rfl) ?_
        refine hl_if_eq (tgt := 29) hx hb dX1_isRightObject_14 (by decide) (by omega) (fun c_5 => ?_) (fun c_5 => ?_)
        · refine lv_aload_n hx hb dX1_isRightObject_29 rfl (lv_at hl 2 rfl) ?_
          refine lv_iload hx hb dX1_isRightObject_30 (lv_at hl 0 rfl) ?_
          refine hl_iald hx hb hK hP 0 0 rfl rfl (by omega) (by decide) dX1_isRightObject_32 ?_
          have hv_6 := hyf i
          refine lv_sipush (v := nI 128) hx hb dX1_isRightObject_33 (by decide) ?_
          refine hl_icmp_ge (tgt := 43) hx hb dX1_isRightObject_36 (by decide) (by omega) (by omega) (fun c_7 => ?_) (fun c_7 => ?_)
          · refine lv_iconst (v := nI 0) hx hb dX1_isRightObject_43 (by decide) ?_
            refine lv_istore_n (lv' := [(3, .int (nI 0)), (4, .int (nI i)), (0, .ref y0), (1, .int (nI a)), (2, .int (nI n))]) hx hb dX1_isRightObject_44 rfl hl (by decide) rfl (fun ls hl => ?_)
            refine lv_iinc (v := (nI (i + 1))) (lv' := [(4, .int (nI (i + 1))), (3, .int (nI 0)), (0, .ref y0), (1, .int (nI a)), (2, .int (nI n))]) hx hb dX1_isRightObject_45 hl (k := 1) rfl (nI_inc i 1) (by decide) rfl (fun ls hl => ?_)
            refine lv_goto (tgt := 5) hx hb dX1_isRightObject_48 (by decide) ?_
            exact ih_5 (i + 1) 0 (by omega) (by omega) (by omega) (ob_step (by omega) hpre (by rintro ⟨h1, h2⟩; rw [if_pos h1] at hpb; omega)) (by rw [ob_beg (by omega)]; simp only [decide_eq_true_eq]; split <;> omega) _ _ _ hP hD hS (lv_sub hl [0, 1, 2, 3, 4] rfl)
          · refine lv_iconst (v := nI 1) hx hb dX1_isRightObject_39 (by decide) ?_
            refine lv_goto (tgt := 44) hx hb dX1_isRightObject_40 (by decide) ?_
            refine lv_istore_n (lv' := [(3, .int (nI 1)), (4, .int (nI i)), (0, .ref y0), (1, .int (nI a)), (2, .int (nI n))]) hx hb dX1_isRightObject_44 rfl hl (by decide) rfl (fun ls hl => ?_)
            refine lv_iinc (v := (nI (i + 1))) (lv' := [(4, .int (nI (i + 1))), (3, .int (nI 1)), (0, .ref y0), (1, .int (nI a)), (2, .int (nI n))]) hx hb dX1_isRightObject_45 hl (k := 1) rfl (nI_inc i 1) (by decide) rfl (fun ls hl => ?_)
            refine lv_goto (tgt := 5) hx hb dX1_isRightObject_48 (by decide) ?_
            exact ih_5 (i + 1) 1 (by omega) (by omega) (by omega) (ob_step (by omega) hpre (by rintro ⟨h1, h2⟩; rw [if_pos h1] at hpb; omega)) (by rw [ob_beg (by omega)]; simp only [decide_eq_true_eq]; split <;> omega) _ _ _ hP hD hS (lv_sub hl [0, 1, 2, 3, 4] rfl)
        · refine lv_aload_n hx hb dX1_isRightObject_17 rfl (lv_at hl 2 rfl) ?_
          refine lv_iload hx hb dX1_isRightObject_18 (lv_at hl 0 rfl) ?_
          refine hl_iald hx hb hK hP 0 0 rfl rfl (by omega) (by decide) dX1_isRightObject_20 ?_
          have hv_8 := hyf i
          refine lv_sipush (v := nI 128) hx hb dX1_isRightObject_21 (by decide) ?_
          refine hl_icmp_ne (tgt := 29) hx hb dX1_isRightObject_24 (by decide) (by omega) (by omega) (fun c_9 => ?_) (fun c_9 => ?_)
          · refine lv_aload_n hx hb dX1_isRightObject_29 rfl (lv_at hl 2 rfl) ?_
            refine lv_iload hx hb dX1_isRightObject_30 (lv_at hl 0 rfl) ?_
            refine hl_iald hx hb hK hP 0 0 rfl rfl (by omega) (by decide) dX1_isRightObject_32 ?_
            have hv_10 := hyf i
            refine lv_sipush (v := nI 128) hx hb dX1_isRightObject_33 (by decide) ?_
            refine hl_icmp_ge (tgt := 43) hx hb dX1_isRightObject_36 (by decide) (by omega) (by omega) (fun c_11 => ?_) (fun c_11 => ?_)
            · refine lv_iconst (v := nI 0) hx hb dX1_isRightObject_43 (by decide) ?_
              refine lv_istore_n (lv' := [(3, .int (nI 0)), (4, .int (nI i)), (0, .ref y0), (1, .int (nI a)), (2, .int (nI n))]) hx hb dX1_isRightObject_44 rfl hl (by decide) rfl (fun ls hl => ?_)
              refine lv_iinc (v := (nI (i + 1))) (lv' := [(4, .int (nI (i + 1))), (3, .int (nI 0)), (0, .ref y0), (1, .int (nI a)), (2, .int (nI n))]) hx hb dX1_isRightObject_45 hl (k := 1) rfl (nI_inc i 1) (by decide) rfl (fun ls hl => ?_)
              refine lv_goto (tgt := 5) hx hb dX1_isRightObject_48 (by decide) ?_
              exact ih_5 (i + 1) 0 (by omega) (by omega) (by omega) (ob_step (by omega) hpre (by rintro ⟨h1, h2⟩; rw [if_pos h1] at hpb; omega)) (by rw [ob_beg (by omega)]; simp only [decide_eq_true_eq]; split <;> omega) _ _ _ hP hD hS (lv_sub hl [0, 1, 2, 3, 4] rfl)
            · refine lv_iconst (v := nI 1) hx hb dX1_isRightObject_39 (by decide) ?_
              refine lv_goto (tgt := 44) hx hb dX1_isRightObject_40 (by decide) ?_
              refine lv_istore_n (lv' := [(3, .int (nI 1)), (4, .int (nI i)), (0, .ref y0), (1, .int (nI a)), (2, .int (nI n))]) hx hb dX1_isRightObject_44 rfl hl (by decide) rfl (fun ls hl => ?_)
              refine lv_iinc (v := (nI (i + 1))) (lv' := [(4, .int (nI (i + 1))), (3, .int (nI 1)), (0, .ref y0), (1, .int (nI a)), (2, .int (nI n))]) hx hb dX1_isRightObject_45 hl (k := 1) rfl (nI_inc i 1) (by decide) rfl (fun ls hl => ?_)
              refine lv_goto (tgt := 5) hx hb dX1_isRightObject_48 (by decide) ?_
              exact ih_5 (i + 1) 1 (by omega) (by omega) (by omega) (ob_step (by omega) hpre (by rintro ⟨h1, h2⟩; rw [if_pos h1] at hpb; omega)) (by rw [ob_beg (by omega)]; simp only [decide_eq_true_eq]; split <;> omega) _ _ _ hP hD hS (lv_sub hl [0, 1, 2, 3, 4] rfl)
          · refine lv_iconst (v := nI 0) hx hb dX1_isRightObject_27 (by decide) ?_
            have hP9 : va_P (dC, dI) vwCl (vX1_isRightObject cA y0 yf a n ()) _ := hP
            have hD9 : va_D A (vX1_isRightObject cA y0 yf a n ()) := hD
            have hq9 : pX1_isRightObject y0 yf a n (nI 0) () := (if_neg (ob_neg (i := i) (by omega) (by omega) (by by_cases q : obBeg yf a (i - a) = true; exact q; rw [if_neg q] at hpb; omega) (by omega))).symm
            exact W.zret (v := nI 0) hx hb hr rfl (fun t ht hW => ⟨⟨nI 0, (), rfl, hq9, by rw [ht]; exact hP9, va_K.moved hW.alike hK, hD9⟩, hS.F ht⟩) hS.2.2 dX1_isRightObject_28
  exact lp_5 (a + n - a + 1) a 1 (Nat.lt_succ_self _) (by omega) (by omega) (by rw [Nat.sub_self]; rfl) (by rw [Nat.sub_self]; rfl) _ _ _ hP hD hS (lv_sub hl [0, 1, 2, 3, 4] rfl)
abbrev pX1_hold (y0 : Nat) (yf : Nat → Nat) (tag : Nat) (a : Nat) (n : Nat) : Int32 → Unit → Prop := fun (r : Int32) (u : Unit) => r = if okC tag yf a n = true then 1 else 0
abbrev vX1_hold (cA : ClassId) (y0 : Nat) (yf : Nat → Nat) (tag : Nat) (a : Nat) (n : Nat) : Unit → va_W := fun (u : Unit) => wA cA y0 yf
abbrev qX1_hold (dC : Nat → ClassId) (dI : Nat → Nat → Nat) (cA : ClassId) (A : Nat → Prop) (y0 : Nat) (yf : Nat → Nat) (tag : Nat) (a : Nat) (n : Nat) : Array Value → State → Outcome → State → Prop := va_Qi (pX1_hold y0 yf tag a n) (fun u => cAft dC dI cA A (vX1_hold cA y0 yf tag a n u)) A
set_option maxHeartbeats 4000000 in
set_option maxRecDepth 100000 in
theorem k_X1_hold (l : Launch) (dC : Nat → ClassId) (dI : Nat → Nat → Nat) (cA : ClassId) (y0 : Nat) (yf : Nat → Nat) (tag : Nat) (a : Nat) (n : Nat) (sz : Nat) (htag : tag < 256) (hyf : ∀ j, yf j < 256) (han : a + n ≤ 300) : Met l yX1_hold wsX1_hold ({ frames := 1, cells := 0, slots := 0, locals := 24 } : Room) (va_Pc [.int (nI tag), .ref y0, .int (nI a), .int (nI n)] (cPre dC dI cA (wA cA y0 yf) sz)) (qX1_hold dC dI cA (va_A (wA cA y0 yf) sz) y0 yf tag a n) 0 0 (va_A (wA cA y0 yf) sz) := by
  refine Met.ofW (cc := cX1_hold) (maxL := 4) (ret := (some .boolean)) (by decide) rfl ?_
  intro p e s m args below meth c s₁ B hml hv
  obtain ⟨rfl, hsz, hP, hK, hD0⟩ := hv
  have hx := B.exec
  have hb := B.bytes
  have hr := B.returns
  have hts := atoms_spec (ws := wsX1_hold) B.pre
  have hown : s.vm.findClass RX1 = some m.cls := findClass_of_methodNamed B.named
  have hlocks := B.notSynchronized
  subst hsz
  have hD := hD0.self (sz := s.heap.size)
  generalize hAe : va_A (wA cA y0 yf) s.heap.size = A at hD ⊢
  have hA : ∀ q : Nat, s.heap.size ≤ q → A q := fun q h => by rw [← hAe]; exact Or.inr h
  have hS : va_S A s.heap s.heap [] := va_S.rf
  have hl := lv_entry ([.int (nI tag), .ref y0, .int (nI a), .int (nI n)]) (n := 4) (Nat.le_of_ble_eq_true rfl)
  rw [lg_entry_eq]
  generalize (lg_sl ([.int (nI tag), .ref y0, .int (nI a), .int (nI n)]) ++ List.replicate (4 - (lg_sl ([.int (nI tag), .ref y0, .int (nI a), .int (nI n)])).length) Slot.unset).toArray = ls at hl ⊢
  have hl : lv_has ls 4 [(0, .int (nI tag)), (1, .ref y0), (2, .int (nI a)), (3, .int (nI n))] := hl
  have hP : va_P (dC, dI) vwCl (wA cA y0 yf) s.heap := hP
  refine lv_iload_n hx hb dX1_hold_0 rfl (lv_at hl 0 rfl) ?_
  rcases (show tag = 1 ∨ tag = 2 ∨ tag = 3 ∨ tag = 4 ∨ tag = 5 ∨ tag = 6 ∨ (tag < 1 ∨ 6 < tag) by omega) with c_1 | c_1 | c_1 | c_1 | c_1 | c_1 | c_1
  · refine hl_top (show nI tag = nI 1 by rw [c_1]) ?_
    refine lv_tableIn (off := 39) (tgt := 40) hx hb dX1_hold_1 (by decide) (by decide) (by decide) (by decide) ?_
    refine lv_iload_n hx hb dX1_hold_40 rfl (lv_at hl 3 rfl) ?_
    refine lv_iconst (v := nI 1) hx hb dX1_hold_41 (by decide) ?_
    refine hl_icmp_ne (tgt := 64) hx hb dX1_hold_42 (by decide) (by omega) (by omega) (fun c_2 => ?_) (fun c_2 => ?_)
    · refine lv_iconst (v := nI 0) hx hb dX1_hold_64 (by decide) ?_
      have hP9 : va_P (dC, dI) vwCl (vX1_hold cA y0 yf tag a n ()) _ := hP
      have hD9 : va_D A (vX1_hold cA y0 yf tag a n ()) := hD
      have hq9 : pX1_hold y0 yf tag a n (nI 0) () := (if_neg (by simp only [okC, okBool]; simp; first | omega | grind)).symm
      exact W.zret (v := nI 0) hx hb hr rfl (fun t ht hW => ⟨⟨nI 0, (), rfl, hq9, by rw [ht]; exact hP9, va_K.moved hW.alike hK, hD9⟩, hS.F ht⟩) hS.2.2 dX1_hold_65
    · refine lv_aload_n hx hb dX1_hold_45 rfl (lv_at hl 1 rfl) ?_
      refine lv_iload_n hx hb dX1_hold_46 rfl (lv_at hl 2 rfl) ?_
      refine hl_iald hx hb hK hP 0 0 rfl rfl (by omega) (by decide) dX1_hold_47 ?_
      have hv_3 := hyf a
      refine hl_if_eq (tgt := 60) hx hb dX1_hold_48 (by decide) (by omega) (fun c_4 => ?_) (fun c_4 => ?_)
      · refine lv_iconst (v := nI 1) hx hb dX1_hold_60 (by decide) ?_
        refine lv_goto (tgt := 65) hx hb dX1_hold_61 (by decide) ?_
        have hP9 : va_P (dC, dI) vwCl (vX1_hold cA y0 yf tag a n ()) _ := hP
        have hD9 : va_D A (vX1_hold cA y0 yf tag a n ()) := hD
        have hq9 : pX1_hold y0 yf tag a n (nI 1) () := (if_pos (by simp only [okC, okBool]; simp; first | omega | grind)).symm
        exact W.zret (v := nI 1) hx hb hr rfl (fun t ht hW => ⟨⟨nI 1, (), rfl, hq9, by rw [ht]; exact hP9, va_K.moved hW.alike hK, hD9⟩, hS.F ht⟩) hS.2.2 dX1_hold_65
      · refine lv_aload_n hx hb dX1_hold_51 rfl (lv_at hl 1 rfl) ?_
        refine lv_iload_n hx hb dX1_hold_52 rfl (lv_at hl 2 rfl) ?_
        refine hl_iald hx hb hK hP 0 0 rfl rfl (by omega) (by decide) dX1_hold_53 ?_
        have hv_5 := hyf a
        refine lv_sipush (v := nI 255) hx hb dX1_hold_54 (by decide) ?_
        refine hl_icmp_ne (tgt := 64) hx hb dX1_hold_57 (by decide) (by omega) (by omega) (fun c_6 => ?_) (fun c_6 => ?_)
        · refine lv_iconst (v := nI 0) hx hb dX1_hold_64 (by decide) ?_
          have hP9 : va_P (dC, dI) vwCl (vX1_hold cA y0 yf tag a n ()) _ := hP
          have hD9 : va_D A (vX1_hold cA y0 yf tag a n ()) := hD
          have hq9 : pX1_hold y0 yf tag a n (nI 0) () := (if_neg (by simp only [okC, okBool]; simp; first | omega | grind)).symm
          exact W.zret (v := nI 0) hx hb hr rfl (fun t ht hW => ⟨⟨nI 0, (), rfl, hq9, by rw [ht]; exact hP9, va_K.moved hW.alike hK, hD9⟩, hS.F ht⟩) hS.2.2 dX1_hold_65
        · refine lv_iconst (v := nI 1) hx hb dX1_hold_60 (by decide) ?_
          refine lv_goto (tgt := 65) hx hb dX1_hold_61 (by decide) ?_
          have hP9 : va_P (dC, dI) vwCl (vX1_hold cA y0 yf tag a n ()) _ := hP
          have hD9 : va_D A (vX1_hold cA y0 yf tag a n ()) := hD
          have hq9 : pX1_hold y0 yf tag a n (nI 1) () := (if_pos (by simp only [okC, okBool]; simp; first | omega | grind)).symm
          exact W.zret (v := nI 1) hx hb hr rfl (fun t ht hW => ⟨⟨nI 1, (), rfl, hq9, by rw [ht]; exact hP9, va_K.moved hW.alike hK, hD9⟩, hS.F ht⟩) hS.2.2 dX1_hold_65
  · refine hl_top (show nI tag = nI 2 by rw [c_1]) ?_
    refine lv_tableIn (off := 65) (tgt := 66) hx hb dX1_hold_1 (by decide) (by decide) (by decide) (by decide) ?_
    refine lv_aload_n hx hb dX1_hold_66 rfl (lv_at hl 1 rfl) ?_
    refine lv_iload_n hx hb dX1_hold_67 rfl (lv_at hl 2 rfl) ?_
    refine lv_iload_n hx hb dX1_hold_68 rfl (lv_at hl 3 rfl) ?_
    refine cl_Si (As := [.ref y0, .int (nI a), .int (nI n)]) (rest := []) (wr := []) ⟨hx, hb, hml, hown, hts⟩ (k_X1_isRightInteger l dC dI cA y0 yf a n _ hyf (by omega)) (va_cwS 3 hts gX1_hold_X1_isRightInteger rfl rfl rfl (by decide +kernel) ⟨Nat.le_of_ble_eq_true rfl, Nat.le_of_ble_eq_true rfl⟩) hK hP hD hS hA [0] [] rfl rfl (by decide) (by decide) (by decide) rfl hl.1 rfl (Nat.le_of_ble_eq_true rfl) dX1_hold_69 ⟨Nat.le_of_ble_eq_true rfl, Nat.le_of_ble_eq_true rfl⟩ (fun r_7 u_7 H locs hw_7 hP hD hS => ?_)
    have hP : va_P (dC, dI) vwCl (wA cA y0 yf) H := hP
    have hD : va_D A (wA cA y0 yf) := hD
    have hw_7 : r_7 = if okInt yf a n = true then 1 else 0 := hw_7
    have hw_7 := hw_7.symm
    subst hw_7
    have hP9 : va_P (dC, dI) vwCl (vX1_hold cA y0 yf tag a n ()) _ := hP
    have hD9 : va_D A (vX1_hold cA y0 yf tag a n ()) := hD
    have hq9 : pX1_hold y0 yf tag a n ((if okInt yf a n = true then 1 else 0)) () := (by show _ = _; simp only [okC, *]; rfl)
    exact W.zret (v := (if okInt yf a n = true then 1 else 0)) hx hb hr (z_narrow _) (fun t ht hW => ⟨⟨(if okInt yf a n = true then 1 else 0), (), rfl, hq9, by rw [ht]; exact hP9, va_K.moved hW.alike hK, hD9⟩, hS.F ht⟩) hS.2.2 dX1_hold_72
  · refine hl_top (show nI tag = nI 3 by rw [c_1]) ?_
    refine lv_tableIn (off := 72) (tgt := 73) hx hb dX1_hold_1 (by decide) (by decide) (by decide) (by decide) ?_
    refine lv_aload_n hx hb dX1_hold_73 rfl (lv_at hl 1 rfl) ?_
    refine lv_iload_n hx hb dX1_hold_74 rfl (lv_at hl 2 rfl) ?_
    refine lv_iload_n hx hb dX1_hold_75 rfl (lv_at hl 3 rfl) ?_
    refine cl_Si (As := [.ref y0, .int (nI a), .int (nI n)]) (rest := []) (wr := []) ⟨hx, hb, hml, hown, hts⟩ (k_X1_isRightBits l dC dI cA y0 yf a n _ hyf (by omega)) (va_cwS 3 hts gX1_hold_X1_isRightBits rfl rfl rfl (by decide +kernel) ⟨Nat.le_of_ble_eq_true rfl, Nat.le_of_ble_eq_true rfl⟩) hK hP hD hS hA [0] [] rfl rfl (by decide) (by decide) (by decide) rfl hl.1 rfl (Nat.le_of_ble_eq_true rfl) dX1_hold_76 ⟨Nat.le_of_ble_eq_true rfl, Nat.le_of_ble_eq_true rfl⟩ (fun r_8 u_8 H locs hw_8 hP hD hS => ?_)
    have hP : va_P (dC, dI) vwCl (wA cA y0 yf) H := hP
    have hD : va_D A (wA cA y0 yf) := hD
    have hw_8 : r_8 = if okBits yf a n = true then 1 else 0 := hw_8
    have hw_8 := hw_8.symm
    subst hw_8
    have hP9 : va_P (dC, dI) vwCl (vX1_hold cA y0 yf tag a n ()) _ := hP
    have hD9 : va_D A (vX1_hold cA y0 yf tag a n ()) := hD
    have hq9 : pX1_hold y0 yf tag a n ((if okBits yf a n = true then 1 else 0)) () := (by show _ = _; simp only [okC, *]; rfl)
    exact W.zret (v := (if okBits yf a n = true then 1 else 0)) hx hb hr (z_narrow _) (fun t ht hW => ⟨⟨(if okBits yf a n = true then 1 else 0), (), rfl, hq9, by rw [ht]; exact hP9, va_K.moved hW.alike hK, hD9⟩, hS.F ht⟩) hS.2.2 dX1_hold_79
  · refine hl_top (show nI tag = nI 4 by rw [c_1]) ?_
    refine lv_tableIn (off := 96) (tgt := 97) hx hb dX1_hold_1 (by decide) (by decide) (by decide) (by decide) ?_
    refine lv_iconst (v := nI 1) hx hb dX1_hold_97 (by decide) ?_
    have hP9 : va_P (dC, dI) vwCl (vX1_hold cA y0 yf tag a n ()) _ := hP
    have hD9 : va_D A (vX1_hold cA y0 yf tag a n ()) := hD
    have hq9 : pX1_hold y0 yf tag a n (nI 1) () := (if_pos (by simp only [okC, okBool]; simp; first | omega | grind)).symm
    exact W.zret (v := nI 1) hx hb hr rfl (fun t ht hW => ⟨⟨nI 1, (), rfl, hq9, by rw [ht]; exact hP9, va_K.moved hW.alike hK, hD9⟩, hS.F ht⟩) hS.2.2 dX1_hold_98
  · refine hl_top (show nI tag = nI 5 by rw [c_1]) ?_
    refine lv_tableIn (off := 79) (tgt := 80) hx hb dX1_hold_1 (by decide) (by decide) (by decide) (by decide) ?_
    refine lv_iload_n hx hb dX1_hold_80 rfl (lv_at hl 3 rfl) ?_
    refine hl_if_ne (tgt := 88) hx hb dX1_hold_81 (by decide) (by omega) (fun c_9 => ?_) (fun c_9 => ?_)
    · refine lv_iconst (v := nI 0) hx hb dX1_hold_88 (by decide) ?_
      have hP9 : va_P (dC, dI) vwCl (vX1_hold cA y0 yf tag a n ()) _ := hP
      have hD9 : va_D A (vX1_hold cA y0 yf tag a n ()) := hD
      have hq9 : pX1_hold y0 yf tag a n (nI 0) () := (if_neg (by simp only [okC, okBool]; simp; first | omega | grind)).symm
      exact W.zret (v := nI 0) hx hb hr rfl (fun t ht hW => ⟨⟨nI 0, (), rfl, hq9, by rw [ht]; exact hP9, va_K.moved hW.alike hK, hD9⟩, hS.F ht⟩) hS.2.2 dX1_hold_89
    · refine lv_iconst (v := nI 1) hx hb dX1_hold_84 (by decide) ?_
      refine lv_goto (tgt := 89) hx hb dX1_hold_85 (by decide) ?_
      have hP9 : va_P (dC, dI) vwCl (vX1_hold cA y0 yf tag a n ()) _ := hP
      have hD9 : va_D A (vX1_hold cA y0 yf tag a n ()) := hD
      have hq9 : pX1_hold y0 yf tag a n (nI 1) () := (if_pos (by simp only [okC, okBool]; simp; first | omega | grind)).symm
      exact W.zret (v := nI 1) hx hb hr rfl (fun t ht hW => ⟨⟨nI 1, (), rfl, hq9, by rw [ht]; exact hP9, va_K.moved hW.alike hK, hD9⟩, hS.F ht⟩) hS.2.2 dX1_hold_89
  · refine hl_top (show nI tag = nI 6 by rw [c_1]) ?_
    refine lv_tableIn (off := 89) (tgt := 90) hx hb dX1_hold_1 (by decide) (by decide) (by decide) (by decide) ?_
    refine lv_aload_n hx hb dX1_hold_90 rfl (lv_at hl 1 rfl) ?_
    refine lv_iload_n hx hb dX1_hold_91 rfl (lv_at hl 2 rfl) ?_
    refine lv_iload_n hx hb dX1_hold_92 rfl (lv_at hl 3 rfl) ?_
    refine cl_Si (As := [.ref y0, .int (nI a), .int (nI n)]) (rest := []) (wr := []) ⟨hx, hb, hml, hown, hts⟩ (k_X1_isRightObject l dC dI cA y0 yf a n _ hyf (by omega)) (va_cwS 3 hts gX1_hold_X1_isRightObject rfl rfl rfl (by decide +kernel) ⟨Nat.le_of_ble_eq_true rfl, Nat.le_of_ble_eq_true rfl⟩) hK hP hD hS hA [0] [] rfl rfl (by decide) (by decide) (by decide) rfl hl.1 rfl (Nat.le_of_ble_eq_true rfl) dX1_hold_93 ⟨Nat.le_of_ble_eq_true rfl, Nat.le_of_ble_eq_true rfl⟩ (fun r_10 u_10 H locs hw_10 hP hD hS => ?_)
    have hP : va_P (dC, dI) vwCl (wA cA y0 yf) H := hP
    have hD : va_D A (wA cA y0 yf) := hD
    have hw_10 : r_10 = if okObj yf a n = true then 1 else 0 := hw_10
    have hw_10 := hw_10.symm
    subst hw_10
    have hP9 : va_P (dC, dI) vwCl (vX1_hold cA y0 yf tag a n ()) _ := hP
    have hD9 : va_D A (vX1_hold cA y0 yf tag a n ()) := hD
    have hq9 : pX1_hold y0 yf tag a n ((if okObj yf a n = true then 1 else 0)) () := (by show _ = _; simp only [okC, *]; rfl)
    exact W.zret (v := (if okObj yf a n = true then 1 else 0)) hx hb hr (z_narrow _) (fun t ht hW => ⟨⟨(if okObj yf a n = true then 1 else 0), (), rfl, hq9, by rw [ht]; exact hP9, va_K.moved hW.alike hK, hD9⟩, hS.F ht⟩) hS.2.2 dX1_hold_96
  · refine lv_tableOut (tgt := 97) hx hb dX1_hold_1 (by rw [nI_toInt (by omega)]; omega) (by decide) ?_
    refine lv_iconst (v := nI 1) hx hb dX1_hold_97 (by decide) ?_
    have hP9 : va_P (dC, dI) vwCl (vX1_hold cA y0 yf tag a n ()) _ := hP
    have hD9 : va_D A (vX1_hold cA y0 yf tag a n ()) := hD
    have hq9 : pX1_hold y0 yf tag a n (nI 1) () := (if_pos (by simp only [okC, okBool]; simp; first | omega | grind)).symm
    exact W.zret (v := nI 1) hx hb hr rfl (fun t ht hW => ⟨⟨nI 1, (), rfl, hq9, by rw [ht]; exact hP9, va_K.moved hW.alike hK, hD9⟩, hS.F ht⟩) hS.2.2 dX1_hold_98
