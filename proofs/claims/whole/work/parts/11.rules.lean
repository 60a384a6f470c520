abbrev pX1_isByte (x : Int32) : Int32 → Unit → Prop := fun (r : Int32) (u : Unit) => r = if ¬ x < 0 ∧ ¬ nI 255 < x then 1 else 0
abbrev vX1_isByte (cA : ClassId) (x : Int32) : Unit → va_W := fun (u : Unit) => []
abbrev qX1_isByte (dC : Nat → ClassId) (dI : Nat → Nat → Nat) (cA : ClassId) (A : Nat → Prop) (x : Int32) : Array Value → State → Outcome → State → Prop := va_Qi (pX1_isByte x) (fun u => cAft dC dI cA A (vX1_isByte cA x u)) A
set_option maxHeartbeats 4000000 in
set_option maxRecDepth 100000 in
theorem k_X1_isByte (l : Launch) (dC : Nat → ClassId) (dI : Nat → Nat → Nat) (cA : ClassId) (x : Int32) (sz : Nat)  : Met l yX1_isByte wsX1_isByte ({ frames := 0, cells := 0, slots := 0, locals := 0 } : Room) (va_Pc [.int x] (cPre dC dI cA ([]) sz)) (qX1_isByte dC dI cA (va_A ([]) sz) x) 0 0 (va_A ([]) sz) := by
  refine Met.ofW (cc := cX1_isByte) (maxL := 1) (ret := (some .boolean)) (by decide) rfl ?_
  intro p e s m args below meth c s₁ B hml hv
  obtain ⟨rfl, hsz, hP, hK, hD0⟩ := hv
  have hx := B.exec
  have hb := B.bytes
  have hr := B.returns
  have hts := atoms_spec (ws := wsX1_isByte) B.pre
  have hown : s.vm.findClass RX1 = some m.cls := findClass_of_methodNamed B.named
  have hlocks := B.notSynchronized
  subst hsz
  have hD := hD0.self (sz := s.heap.size)
  generalize hAe : va_A ([]) s.heap.size = A at hD ⊢
  have hA : ∀ q : Nat, s.heap.size ≤ q → A q := fun q h => by rw [← hAe]; exact Or.inr h
  have hS : va_S A s.heap s.heap [] := va_S.rf
  have hl := lv_entry ([.int x]) (n := 1) (Nat.le_of_ble_eq_true rfl)
  rw [lg_entry_eq]
  generalize (lg_sl ([.int x]) ++ List.replicate (1 - (lg_sl ([.int x])).length) Slot.unset).toArray = ls at hl ⊢
  have hl : lv_has ls 1 [(0, .int x)] := hl
  have hP : va_P (dC, dI) vwCl ([]) s.heap := hP
  refine lv_iload_n hx hb dX1_isByte_0 rfl (lv_at hl 0 rfl) ?_
  refine lv_if_lt (tgt := 15) hx hb dX1_isByte_1 (by decide) (fun c_1 => ?_) (fun c_1 => ?_)
  · refine lv_iconst (v := nI 0) hx hb dX1_isByte_15 (by decide) ?_
    have hP9 : va_P (dC, dI) vwCl (vX1_isByte cA x ()) _ := hP
    have hD9 : va_D A (vX1_isByte cA x ()) := hD
    have hq9 : pX1_isByte x (nI 0) () := (if_neg (by first | omega | grind)).symm
    exact W.zret (v := nI 0) hx hb hr rfl (fun t ht hW => ⟨⟨nI 0, (), rfl, hq9, by rw [ht]; exact hP9, va_K.moved hW.alike hK, hD9⟩, hS.F ht⟩) hS.2.2 dX1_isByte_16
  · refine lv_iload_n hx hb dX1_isByte_4 rfl (lv_at hl 0 rfl) ?_
    refine lv_sipush (v := nI 255) hx hb dX1_isByte_5 (by decide) ?_
    refine lv_icmp_gt (tgt := 15) hx hb dX1_isByte_8 (by decide) (fun c_2 => ?_) (fun c_2 => ?_)
    · refine lv_iconst (v := nI 0) hx hb dX1_isByte_15 (by decide) ?_
      have hP9 : va_P (dC, dI) vwCl (vX1_isByte cA x ()) _ := hP
      have hD9 : va_D A (vX1_isByte cA x ()) := hD
      have hq9 : pX1_isByte x (nI 0) () := (if_neg (by first | omega | grind)).symm
      exact W.zret (v := nI 0) hx hb hr rfl (fun t ht hW => ⟨⟨nI 0, (), rfl, hq9, by rw [ht]; exact hP9, va_K.moved hW.alike hK, hD9⟩, hS.F ht⟩) hS.2.2 dX1_isByte_16
    · refine lv_iconst (v := nI 1) hx hb dX1_isByte_11 (by decide) ?_
      refine lv_goto (tgt := 16) hx hb dX1_isByte_12 (by decide) ?_
      have hP9 : va_P (dC, dI) vwCl (vX1_isByte cA x ()) _ := hP
      have hD9 : va_D A (vX1_isByte cA x ()) := hD
      have hq9 : pX1_isByte x (nI 1) () := (if_pos (by first | omega | grind)).symm
      exact W.zret (v := nI 1) hx hb hr rfl (fun t ht hW => ⟨⟨nI 1, (), rfl, hq9, by rw [ht]; exact hP9, va_K.moved hW.alike hK, hD9⟩, hS.F ht⟩) hS.2.2 dX1_isByte_16
abbrev pX4_isByte (x : Int32) : Int32 → Unit → Prop := fun (r : Int32) (u : Unit) => r = if ¬ x < 0 ∧ ¬ nI 256 ≤ x then 1 else 0
abbrev vX4_isByte (cA : ClassId) (x : Int32) : Unit → va_W := fun (u : Unit) => []
abbrev qX4_isByte (dC : Nat → ClassId) (dI : Nat → Nat → Nat) (cA : ClassId) (A : Nat → Prop) (x : Int32) : Array Value → State → Outcome → State → Prop := va_Qi (pX4_isByte x) (fun u => cAft dC dI cA A (vX4_isByte cA x u)) A
set_option maxHeartbeats 4000000 in
set_option maxRecDepth 100000 in
theorem k_X4_isByte (l : Launch) (dC : Nat → ClassId) (dI : Nat → Nat → Nat) (cA : ClassId) (x : Int32) (sz : Nat)  : Met l yX4_isByte wsX4_isByte ({ frames := 0, cells := 0, slots := 0, locals := 0 } : Room) (va_Pc [.int x] (cPre dC dI cA ([]) sz)) (qX4_isByte dC dI cA (va_A ([]) sz) x) 0 0 (va_A ([]) sz) := by
  refine Met.ofW (cc := cX4_isByte) (maxL := 1) (ret := (some .boolean)) (by decide) rfl ?_
  intro p e s m args below meth c s₁ B hml hv
  obtain ⟨rfl, hsz, hP, hK, hD0⟩ := hv
  have hx := B.exec
  have hb := B.bytes
  have hr := B.returns
  have hts := atoms_spec (ws := wsX4_isByte) B.pre
  have hown : s.vm.findClass RX4 = some m.cls := findClass_of_methodNamed B.named
  have hlocks := B.notSynchronized
  subst hsz
  have hD := hD0.self (sz := s.heap.size)
  generalize hAe : va_A ([]) s.heap.size = A at hD ⊢
  have hA : ∀ q : Nat, s.heap.size ≤ q → A q := fun q h => by rw [← hAe]; exact Or.inr h
  have hS : va_S A s.heap s.heap [] := va_S.rf
  have hl := lv_entry ([.int x]) (n := 1) (Nat.le_of_ble_eq_true rfl)
  rw [lg_entry_eq]
  generalize (lg_sl ([.int x]) ++ List.replicate (1 - (lg_sl ([.int x])).length) Slot.unset).toArray = ls at hl ⊢
  have hl : lv_has ls 1 [(0, .int x)] := hl
  have hP : va_P (dC, dI) vwCl ([]) s.heap := hP
  refine lv_iload_n hx hb dX4_isByte_0 rfl (lv_at hl 0 rfl) ?_
  refine lv_if_lt (tgt := 15) hx hb dX4_isByte_1 (by decide) (fun c_1 => ?_) (fun c_1 => ?_)
  · refine lv_iconst (v := nI 0) hx hb dX4_isByte_15 (by decide) ?_
    have hP9 : va_P (dC, dI) vwCl (vX4_isByte cA x ()) _ := hP
    have hD9 : va_D A (vX4_isByte cA x ()) := hD
    have hq9 : pX4_isByte x (nI 0) () := (if_neg (by first | omega | grind)).symm
    exact W.zret (v := nI 0) hx hb hr rfl (fun t ht hW => ⟨⟨nI 0, (), rfl, hq9, by rw [ht]; exact hP9, va_K.moved hW.alike hK, hD9⟩, hS.F ht⟩) hS.2.2 dX4_isByte_16
  · refine lv_iload_n hx hb dX4_isByte_4 rfl (lv_at hl 0 rfl) ?_
    refine lv_sipush (v := nI 256) hx hb dX4_isByte_5 (by decide) ?_
    refine lv_icmp_ge (tgt := 15) hx hb dX4_isByte_8 (by decide) (fun c_2 => ?_) (fun c_2 => ?_)
    · refine lv_iconst (v := nI 0) hx hb dX4_isByte_15 (by decide) ?_
      have hP9 : va_P (dC, dI) vwCl (vX4_isByte cA x ()) _ := hP
      have hD9 : va_D A (vX4_isByte cA x ()) := hD
      have hq9 : pX4_isByte x (nI 0) () := (if_neg (by first | omega | grind)).symm
      exact W.zret (v := nI 0) hx hb hr rfl (fun t ht hW => ⟨⟨nI 0, (), rfl, hq9, by rw [ht]; exact hP9, va_K.moved hW.alike hK, hD9⟩, hS.F ht⟩) hS.2.2 dX4_isByte_16
    · refine lv_iconst (v := nI 1) hx hb dX4_isByte_11 (by decide) ?_
      refine lv_goto (tgt := 16) hx hb dX4_isByte_12 (by decide) ?_
      have hP9 : va_P (dC, dI) vwCl (vX4_isByte cA x ()) _ := hP
      have hD9 : va_D A (vX4_isByte cA x ()) := hD
      have hq9 : pX4_isByte x (nI 1) () := (if_pos (by first | omega | grind)).symm
      exact W.zret (v := nI 1) hx hb hr rfl (fun t ht hW => ⟨⟨nI 1, (), rfl, hq9, by rw [ht]; exact hP9, va_K.moved hW.alike hK, hD9⟩, hS.F ht⟩) hS.2.2 dX4_isByte_16
abbrev pX1_isIdentifier (x : Int32) : Int32 → Unit → Prop := fun (r : Int32) (u : Unit) => r = if (¬ x < nI 1 ∧ x ≤ nI 6) ∨ x = nI 48 then 1 else 0
abbrev vX1_isIdentifier (cA : ClassId) (x : Int32) : Unit → va_W := fun (u : Unit) => []
abbrev qX1_isIdentifier (dC : Nat → ClassId) (dI : Nat → Nat → Nat) (cA : ClassId) (A : Nat → Prop) (x : Int32) : Array Value → State → Outcome → State → Prop := va_Qi (pX1_isIdentifier x) (fun u => cAft dC dI cA A (vX1_isIdentifier cA x u)) A
set_option maxHeartbeats 4000000 in
set_option maxRecDepth 100000 in
theorem k_X1_isIdentifier (l : Launch) (dC : Nat → ClassId) (dI : Nat → Nat → Nat) (cA : ClassId) (x : Int32) (sz : Nat)  : Met l yX1_isIdentifier wsX1_isIdentifier ({ frames := 0, cells := 0, slots := 0, locals := 0 } : Room) (va_Pc [.int x] (cPre dC dI cA ([]) sz)) (qX1_isIdentifier dC dI cA (va_A ([]) sz) x) 0 0 (va_A ([]) sz) := by
  refine Met.ofW (cc := cX1_isIdentifier) (maxL := 1) (ret := (some .boolean)) (by decide) rfl ?_
  intro p e s m args below meth c s₁ B hml hv
  obtain ⟨rfl, hsz, hP, hK, hD0⟩ := hv
  have hx := B.exec
  have hb := B.bytes
  have hr := B.returns
  have hts := atoms_spec (ws := wsX1_isIdentifier) B.pre
  have hown : s.vm.findClass RX1 = some m.cls := findClass_of_methodNamed B.named
  have hlocks := B.notSynchronized
  subst hsz
  have hD := hD0.self (sz := s.heap.size)
  generalize hAe : va_A ([]) s.heap.size = A at hD ⊢
  have hA : ∀ q : Nat, s.heap.size ≤ q → A q := fun q h => by rw [← hAe]; exact Or.inr h
  have hS : va_S A s.heap s.heap [] := va_S.rf
  have hl := lv_entry ([.int x]) (n := 1) (Nat.le_of_ble_eq_true rfl)
  rw [lg_entry_eq]
  generalize (lg_sl ([.int x]) ++ List.replicate (1 - (lg_sl ([.int x])).length) Slot.unset).toArray = ls at hl ⊢
  have hl : lv_has ls 1 [(0, .int x)] := hl
  have hP : va_P (dC, dI) vwCl ([]) s.heap := hP
  refine lv_iload_n hx hb dX1_isIdentifier_0 rfl (lv_at hl 0 rfl) ?_
  refine lv_iconst (v := nI 1) hx hb dX1_isIdentifier_1 (by decide) ?_
  refine lv_icmp_lt (tgt := 11) hx hb dX1_isIdentifier_2 (by decide) (fun c_1 => ?_) (fun c_1 => ?_)
  · refine lv_iload_n hx hb dX1_isIdentifier_11 rfl (lv_at hl 0 rfl) ?_
    refine lv_bipush (v := nI 48) hx hb dX1_isIdentifier_12 (by decide) ?_
    refine lv_icmp_ne (tgt := 21) hx hb dX1_isIdentifier_14 (by decide) (fun c_2 => ?_) (fun c_2 => ?_)
    · refine lv_iconst (v := nI 0) hx hb dX1_isIdentifier_21 (by decide) ?_
      have hP9 : va_P (dC, dI) vwCl (vX1_isIdentifier cA x ()) _ := hP
      have hD9 : va_D A (vX1_isIdentifier cA x ()) := hD
      have hq9 : pX1_isIdentifier x (nI 0) () := (if_neg (by first | omega | grind)).symm
      exact W.zret (v := nI 0) hx hb hr rfl (fun t ht hW => ⟨⟨nI 0, (), rfl, hq9, by rw [ht]; exact hP9, va_K.moved hW.alike hK, hD9⟩, hS.F ht⟩) hS.2.2 dX1_isIdentifier_22
    · refine lv_iconst (v := nI 1) hx hb dX1_isIdentifier_17 (by decide) ?_
      refine lv_goto (tgt := 22) hx hb dX1_isIdentifier_18 (by decide) ?_
      have hP9 : va_P (dC, dI) vwCl (vX1_isIdentifier cA x ()) _ := hP
      have hD9 : va_D A (vX1_isIdentifier cA x ()) := hD
      have hq9 : pX1_isIdentifier x (nI 1) () := (if_pos (by first | omega | grind)).symm
      exact W.zret (v := nI 1) hx hb hr rfl (fun t ht hW => ⟨⟨nI 1, (), rfl, hq9, by rw [ht]; exact hP9, va_K.moved hW.alike hK, hD9⟩, hS.F ht⟩) hS.2.2 dX1_isIdentifier_22
  · refine lv_iload_n hx hb dX1_isIdentifier_5 rfl (lv_at hl 0 rfl) ?_
    refine lv_bipush (v := nI 6) hx hb dX1_isIdentifier_6 (by decide) ?_
    refine lv_icmp_le (tgt := 17) hx hb dX1_isIdentifier_8 (by decide) (fun c_3 => ?_) (fun c_3 => ?_)
    · refine lv_iconst (v := nI 1) hx hb dX1_isIdentifier_17 (by decide) ?_
      refine lv_goto (tgt := 22) hx hb dX1_isIdentifier_18 (by decide) ?_
      have hP9 : va_P (dC, dI) vwCl (vX1_isIdentifier cA x ()) _ := hP
      have hD9 : va_D A (vX1_isIdentifier cA x ()) := hD
      have hq9 : pX1_isIdentifier x (nI 1) () := (if_pos (by first | omega | grind)).symm
      exact W.zret (v := nI 1) hx hb hr rfl (fun t ht hW => ⟨⟨nI 1, (), rfl, hq9, by rw [ht]; exact hP9, va_K.moved hW.alike hK, hD9⟩, hS.F ht⟩) hS.2.2 dX1_isIdentifier_22
    · refine lv_iload_n hx hb dX1_isIdentifier_11 rfl (lv_at hl 0 rfl) ?_
      refine lv_bipush (v := nI 48) hx hb dX1_isIdentifier_12 (by decide) ?_
      refine lv_icmp_ne (tgt := 21) hx hb dX1_isIdentifier_14 (by decide) (fun c_4 => ?_) (fun c_4 => ?_)
      · refine lv_iconst (v := nI 0) hx hb dX1_isIdentifier_21 (by decide) ?_
        have hP9 : va_P (dC, dI) vwCl (vX1_isIdentifier cA x ()) _ := hP
        have hD9 : va_D A (vX1_isIdentifier cA x ()) := hD
        have hq9 : pX1_isIdentifier x (nI 0) () := (if_neg (by first | omega | grind)).symm
        exact W.zret (v := nI 0) hx hb hr rfl (fun t ht hW => ⟨⟨nI 0, (), rfl, hq9, by rw [ht]; exact hP9, va_K.moved hW.alike hK, hD9⟩, hS.F ht⟩) hS.2.2 dX1_isIdentifier_22
      · refine lv_iconst (v := nI 1) hx hb dX1_isIdentifier_17 (by decide) ?_
        refine lv_goto (tgt := 22) hx hb dX1_isIdentifier_18 (by decide) ?_
        have hP9 : va_P (dC, dI) vwCl (vX1_isIdentifier cA x ()) _ := hP
        have hD9 : va_D A (vX1_isIdentifier cA x ()) := hD
        have hq9 : pX1_isIdentifier x (nI 1) () := (if_pos (by first | omega | grind)).symm
        exact W.zret (v := nI 1) hx hb hr rfl (fun t ht hW => ⟨⟨nI 1, (), rfl, hq9, by rw [ht]; exact hP9, va_K.moved hW.alike hK, hD9⟩, hS.F ht⟩) hS.2.2 dX1_isIdentifier_22
abbrev pX4_isTag (x : Int32) : Int32 → Unit → Prop := fun (r : Int32) (u : Unit) => r = if (¬ x < nI 1 ∧ x ≤ nI 6) ∨ x = nI 48 then 1 else 0
abbrev vX4_isTag (cA : ClassId) (x : Int32) : Unit → va_W := fun (u : Unit) => []
abbrev qX4_isTag (dC : Nat → ClassId) (dI : Nat → Nat → Nat) (cA : ClassId) (A : Nat → Prop) (x : Int32) : Array Value → State → Outcome → State → Prop := va_Qi (pX4_isTag x) (fun u => cAft dC dI cA A (vX4_isTag cA x u)) A
set_option maxHeartbeats 4000000 in
set_option maxRecDepth 100000 in
theorem k_X4_isTag (l : Launch) (dC : Nat → ClassId) (dI : Nat → Nat → Nat) (cA : ClassId) (x : Int32) (sz : Nat)  : Met l yX4_isTag wsX4_isTag ({ frames := 0, cells := 0, slots := 0, locals := 0 } : Room) (va_Pc [.int x] (cPre dC dI cA ([]) sz)) (qX4_isTag dC dI cA (va_A ([]) sz) x) 0 0 (va_A ([]) sz) := by
  refine Met.ofW (cc := cX4_isTag) (maxL := 1) (ret := (some .boolean)) (by decide) rfl ?_
  intro p e s m args below meth c s₁ B hml hv
  obtain ⟨rfl, hsz, hP, hK, hD0⟩ := hv
  have hx := B.exec
  have hb := B.bytes
  have hr := B.returns
  have hts := atoms_spec (ws := wsX4_isTag) B.pre
  have hown : s.vm.findClass RX4 = some m.cls := findClass_of_methodNamed B.named
  have hlocks := B.notSynchronized
  subst hsz
  have hD := hD0.self (sz := s.heap.size)
  generalize hAe : va_A ([]) s.heap.size = A at hD ⊢
  have hA : ∀ q : Nat, s.heap.size ≤ q → A q := fun q h => by rw [← hAe]; exact Or.inr h
  have hS : va_S A s.heap s.heap [] := va_S.rf
  have hl := lv_entry ([.int x]) (n := 1) (Nat.le_of_ble_eq_true rfl)
  rw [lg_entry_eq]
  generalize (lg_sl ([.int x]) ++ List.replicate (1 - (lg_sl ([.int x])).length) Slot.unset).toArray = ls at hl ⊢
  have hl : lv_has ls 1 [(0, .int x)] := hl
  have hP : va_P (dC, dI) vwCl ([]) s.heap := hP
  refine lv_iload_n hx hb dX4_isTag_0 rfl (lv_at hl 0 rfl) ?_
  refine lv_iconst (v := nI 1) hx hb dX4_isTag_1 (by decide) ?_
  refine lv_icmp_lt (tgt := 11) hx hb dX4_isTag_2 (by decide) (fun c_1 => ?_) (fun c_1 => ?_)
  · refine lv_iload_n hx hb dX4_isTag_11 rfl (lv_at hl 0 rfl) ?_
    refine lv_bipush (v := nI 48) hx hb dX4_isTag_12 (by decide) ?_
    refine lv_icmp_ne (tgt := 21) hx hb dX4_isTag_14 (by decide) (fun c_2 => ?_) (fun c_2 => ?_)
    · refine lv_iconst (v := nI 0) hx hb dX4_isTag_21 (by decide) ?_
      have hP9 : va_P (dC, dI) vwCl (vX4_isTag cA x ()) _ := hP
      have hD9 : va_D A (vX4_isTag cA x ()) := hD
      have hq9 : pX4_isTag x (nI 0) () := (if_neg (by first | omega | grind)).symm
      exact W.zret (v := nI 0) hx hb hr rfl (fun t ht hW => ⟨⟨nI 0, (), rfl, hq9, by rw [ht]; exact hP9, va_K.moved hW.alike hK, hD9⟩, hS.F ht⟩) hS.2.2 dX4_isTag_22
    · refine lv_iconst (v := nI 1) hx hb dX4_isTag_17 (by decide) ?_
      refine lv_goto (tgt := 22) hx hb dX4_isTag_18 (by decide) ?_
      have hP9 : va_P (dC, dI) vwCl (vX4_isTag cA x ()) _ := hP
      have hD9 : va_D A (vX4_isTag cA x ()) := hD
      have hq9 : pX4_isTag x (nI 1) () := (if_pos (by first | omega | grind)).symm
      exact W.zret (v := nI 1) hx hb hr rfl (fun t ht hW => ⟨⟨nI 1, (), rfl, hq9, by rw [ht]; exact hP9, va_K.moved hW.alike hK, hD9⟩, hS.F ht⟩) hS.2.2 dX4_isTag_22
  · refine lv_iload_n hx hb dX4_isTag_5 rfl (lv_at hl 0 rfl) ?_
    refine lv_bipush (v := nI 6) hx hb dX4_isTag_6 (by decide) ?_
    refine lv_icmp_le (tgt := 17) hx hb dX4_isTag_8 (by decide) (fun c_3 => ?_) (fun c_3 => ?_)
    · refine lv_iconst (v := nI 1) hx hb dX4_isTag_17 (by decide) ?_
      refine lv_goto (tgt := 22) hx hb dX4_isTag_18 (by decide) ?_
      have hP9 : va_P (dC, dI) vwCl (vX4_isTag cA x ()) _ := hP
      have hD9 : va_D A (vX4_isTag cA x ()) := hD
      have hq9 : pX4_isTag x (nI 1) () := (if_pos (by first | omega | grind)).symm
      exact W.zret (v := nI 1) hx hb hr rfl (fun t ht hW => ⟨⟨nI 1, (), rfl, hq9, by rw [ht]; exact hP9, va_K.moved hW.alike hK, hD9⟩, hS.F ht⟩) hS.2.2 dX4_isTag_22
    · refine lv_iload_n hx hb dX4_isTag_11 rfl (lv_at hl 0 rfl) ?_
      refine lv_bipush (v := nI 48) hx hb dX4_isTag_12 (by decide) ?_
      refine lv_icmp_ne (tgt := 21) hx hb dX4_isTag_14 (by decide) (fun c_4 => ?_) (fun c_4 => ?_)
      · refine lv_iconst (v := nI 0) hx hb dX4_isTag_21 (by decide) ?_
        have hP9 : va_P (dC, dI) vwCl (vX4_isTag cA x ()) _ := hP
        have hD9 : va_D A (vX4_isTag cA x ()) := hD
        have hq9 : pX4_isTag x (nI 0) () := (if_neg (by first | omega | grind)).symm
        exact W.zret (v := nI 0) hx hb hr rfl (fun t ht hW => ⟨⟨nI 0, (), rfl, hq9, by rw [ht]; exact hP9, va_K.moved hW.alike hK, hD9⟩, hS.F ht⟩) hS.2.2 dX4_isTag_22
      · refine lv_iconst (v := nI 1) hx hb dX4_isTag_17 (by decide) ?_
        refine lv_goto (tgt := 22) hx hb dX4_isTag_18 (by decide) ?_
        have hP9 : va_P (dC, dI) vwCl (vX4_isTag cA x ()) _ := hP
        have hD9 : va_D A (vX4_isTag cA x ()) := hD
        have hq9 : pX4_isTag x (nI 1) () := (if_pos (by first | omega | grind)).symm
        exact W.zret (v := nI 1) hx hb hr rfl (fun t ht hW => ⟨⟨nI 1, (), rfl, hq9, by rw [ht]; exact hP9, va_K.moved hW.alike hK, hD9⟩, hS.F ht⟩) hS.2.2 dX4_isTag_22
def lenSz (n : Nat) : Nat := if n < 128 then 1 else if n < 256 then 2 else 3
abbrev pX1_lengthSize (n : Nat) : Int32 → Unit → Prop := fun (r : Int32) (u : Unit) => r = nI (lenSz n)
abbrev vX1_lengthSize (cA : ClassId) (n : Nat) : Unit → va_W := fun (u : Unit) => []
abbrev qX1_lengthSize (dC : Nat → ClassId) (dI : Nat → Nat → Nat) (cA : ClassId) (A : Nat → Prop) (n : Nat) : Array Value → State → Outcome → State → Prop := va_Qi (pX1_lengthSize n) (fun u => cAft dC dI cA A (vX1_lengthSize cA n u)) A
set_option maxHeartbeats 4000000 in
set_option maxRecDepth 100000 in
theorem k_X1_lengthSize (l : Launch) (dC : Nat → ClassId) (dI : Nat → Nat → Nat) (cA : ClassId) (n : Nat) (sz : Nat) (hn : n < 2 ^ 31) : Met l yX1_lengthSize wsX1_lengthSize ({ frames := 0, cells := 0, slots := 0, locals := 0 } : Room) (va_Pc [.int (nI n)] (cPre dC dI cA ([]) sz)) (qX1_lengthSize dC dI cA (va_A ([]) sz) n) 0 0 (va_A ([]) sz) := by
  refine Met.ofW (cc := cX1_lengthSize) (maxL := 1) (ret := (some .int)) (by decide) rfl ?_
  intro p e s m args below meth c s₁ B hml hv
  obtain ⟨rfl, hsz, hP, hK, hD0⟩ := hv
  have hx := B.exec
  have hb := B.bytes
  have hr := B.returns
  have hts := atoms_spec (ws := wsX1_lengthSize) B.pre
  have hown : s.vm.findClass RX1 = some m.cls := findClass_of_methodNamed B.named
  have hlocks := B.notSynchronized
  subst hsz
  have hD := hD0.self (sz := s.heap.size)
  generalize hAe : va_A ([]) s.heap.size = A at hD ⊢
  have hA : ∀ q : Nat, s.heap.size ≤ q → A q := fun q h => by rw [← hAe]; exact Or.inr h
  have hS : va_S A s.heap s.heap [] := va_S.rf
  have hl := lv_entry ([.int (nI n)]) (n := 1) (Nat.le_of_ble_eq_true rfl)
  rw [lg_entry_eq]
  generalize (lg_sl ([.int (nI n)]) ++ List.replicate (1 - (lg_sl ([.int (nI n)])).length) Slot.unset).toArray = ls at hl ⊢
  have hl : lv_has ls 1 [(0, .int (nI n))] := hl
  have hP : va_P (dC, dI) vwCl ([]) s.heap := hP
  refine lv_iload_n hx hb dX1_lengthSize_0 rfl (lv_at hl 0 rfl) ?_
  refine lv_sipush (v := nI 128) hx hb dX1_lengthSize_1 (by decide) ?_
  refine hl_icmp_ge (tgt := 9) hx hb dX1_lengthSize_4 (by decide) (by omega) (by omega) (fun c_1 => ?_) (fun c_1 => ?_)
  · refine lv_iload_n hx hb dX1_lengthSize_9 rfl (lv_at hl 0 rfl) ?_
    refine lv_sipush (v := nI 256) hx hb dX1_lengthSize_10 (by decide) ?_
    refine hl_icmp_ge (tgt := 20) hx hb dX1_lengthSize_13 (by decide) (by omega) (by omega) (fun c_2 => ?_) (fun c_2 => ?_)
    · refine lv_iconst (v := nI 3) hx hb dX1_lengthSize_20 (by decide) ?_
      have hP9 : va_P (dC, dI) vwCl (vX1_lengthSize cA n ()) _ := hP
      have hD9 : va_D A (vX1_lengthSize cA n ()) := hD
      have hq9 : pX1_lengthSize n (nI 3) () := congrArg nI (by unfold lenSz; (repeat' split) <;> omega)
      exact W.iret (v := nI 3) hx hb hr (fun t ht hW => ⟨⟨nI 3, (), rfl, hq9, by rw [ht]; exact hP9, va_K.moved hW.alike hK, hD9⟩, hS.F ht⟩) hS.2.2 dX1_lengthSize_21
    · refine lv_iconst (v := nI 2) hx hb dX1_lengthSize_16 (by decide) ?_
      refine lv_goto (tgt := 21) hx hb dX1_lengthSize_17 (by decide) ?_
      have hP9 : va_P (dC, dI) vwCl (vX1_lengthSize cA n ()) _ := hP
      have hD9 : va_D A (vX1_lengthSize cA n ()) := hD
      have hq9 : pX1_lengthSize n (nI 2) () := congrArg nI (by unfold lenSz; (repeat' split) <;> omega)
      exact W.iret (v := nI 2) hx hb hr (fun t ht hW => ⟨⟨nI 2, (), rfl, hq9, by rw [ht]; exact hP9, va_K.moved hW.alike hK, hD9⟩, hS.F ht⟩) hS.2.2 dX1_lengthSize_21
  · refine lv_iconst (v := nI 1) hx hb dX1_lengthSize_7 (by decide) ?_
    have hP9 : va_P (dC, dI) vwCl (vX1_lengthSize cA n ()) _ := hP
    have hD9 : va_D A (vX1_lengthSize cA n ()) := hD
    have hq9 : pX1_lengthSize n (nI 1) () := congrArg nI (by unfold lenSz; (repeat' split) <;> omega)
    exact W.iret (v := nI 1) hx hb hr (fun t ht hW => ⟨⟨nI 1, (), rfl, hq9, by rw [ht]; exact hP9, va_K.moved hW.alike hK, hD9⟩, hS.F ht⟩) hS.2.2 dX1_lengthSize_8
