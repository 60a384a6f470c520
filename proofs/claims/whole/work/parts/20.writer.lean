abbrev pX2_clear (v0 : Nat) (v1 : Nat) (v2 : Nat) (bt : Nat → Nat) (wz : Nat) (op : Nat → Nat) (dp : Nat) : Nat × Nat → Prop := fun (u : Nat × Nat) => match u with | (wz2, dp2) => wz2 = 0 ∧ dp2 = 0
abbrev vX2_clear (cA : ClassId) (v0 : Nat) (v1 : Nat) (v2 : Nat) (bt : Nat → Nat) (wz : Nat) (op : Nat → Nat) (dp : Nat) : Nat × Nat → va_W := fun (u : Nat × Nat) => match u with | (wz2, dp2) => wW cA v0 v1 v2 bt wz2 op dp2
abbrev qX2_clear (dC : Nat → ClassId) (dI : Nat → Nat → Nat) (cA : ClassId) (A : Nat → Prop) (v0 : Nat) (v1 : Nat) (v2 : Nat) (bt : Nat → Nat) (wz : Nat) (op : Nat → Nat) (dp : Nat) : Array Value → State → Outcome → State → Prop := va_Qv (pX2_clear v0 v1 v2 bt wz op dp) (fun u => cAft dC dI cA A (vX2_clear cA v0 v1 v2 bt wz op dp u)) A
set_option maxHeartbeats 4000000 in
set_option maxRecDepth 100000 in
theorem k_X2_clear (l : Launch) (dC : Nat → ClassId) (dI : Nat → Nat → Nat) (cA : ClassId) (v0 : Nat) (v1 : Nat) (v2 : Nat) (bt : Nat → Nat) (wz : Nat) (op : Nat → Nat) (dp : Nat) (sz : Nat)  : Met l yX2_clear wsX2_clear ({ frames := 0, cells := 0, slots := 0, locals := 0 } : Room) (va_Pc [.ref v0] (cPre dC dI cA (wW cA v0 v1 v2 bt wz op dp) sz)) (qX2_clear dC dI cA (va_A (wW cA v0 v1 v2 bt wz op dp) sz) v0 v1 v2 bt wz op dp) 0 0 (va_A (wW cA v0 v1 v2 bt wz op dp) sz) := by
  refine Met.ofW (cc := cX2_clear) (maxL := 1) (ret := none) (by decide) rfl ?_
  intro p e s m args below meth c s₁ B hml hv
  obtain ⟨rfl, hsz, hP, hK, hD0⟩ := hv
  have hx := B.exec
  have hb := B.bytes
  have hr := B.returns
  have hts := atoms_spec (ws := wsX2_clear) B.pre
  have hown : s.vm.findClass RX2 = some m.cls := findClass_of_methodNamed B.named
  have hlocks := B.notSynchronized
  subst hsz
  have hD := hD0.self (sz := s.heap.size)
  generalize hAe : va_A (wW cA v0 v1 v2 bt wz op dp) s.heap.size = A at hD ⊢
  have hA : ∀ q : Nat, s.heap.size ≤ q → A q := fun q h => by rw [← hAe]; exact Or.inr h
  have hS : va_S A s.heap s.heap [] := va_S.rf
  have hl := lv_entry ([.ref v0]) (n := 1) (Nat.le_of_ble_eq_true rfl)
  rw [lg_entry_eq]
  generalize (lg_sl ([.ref v0]) ++ List.replicate (1 - (lg_sl ([.ref v0])).length) Slot.unset).toArray = ls at hl ⊢
  have hl : lv_has ls 1 [(0, .ref v0)] := hl
  have hinX2 : ∀ w ∈ wsX20, w ∈ wsX2_clear := fun _ h => List.mem_cons_of_mem _ (List.mem_append_right _ h)
  have hf_15 := hts (.fieldLink RX2 15 "DerDesk$Writer" "size" "I") (by decide +kernel)
  have hf_22 := hts (.fieldLink RX2 22 "DerDesk$Writer" "depth" "I") (by decide +kernel)
  have hP : va_P (dC, dI) vwCl (wW cA v0 v1 v2 bt wz op dp) s.heap := hP
  refine lv_aload_n hx hb dX2_clear_0 rfl (lv_at hl 0 rfl) ?_
  refine lv_iconst (v := nI 0) hx hb dX2_clear_1 (by decide) ?_
  refine va_put (D := (dC, dI)) (ci := 1) (v := .int (nI 0)) (ty := .int) (C := RX2) (T := TX2) (N := 4) hx hb hts hinX2 tyX2 tyX2_ok nmX2 hown hK hP hD hS 0 rfl rfl 1 (by decide) hf_15 (fun _ h9 => h9) rfl (by decide +kernel) rfl rfl (Nat.le_of_ble_eq_true rfl) dX2_clear_2 (fun H locs hP hD hS => ?_)
  have hP : va_P (dC, dI) vwCl (wW cA v0 v1 v2 bt 0 op dp) H := hP
  have hD : va_D A (wW cA v0 v1 v2 bt 0 op dp) := hD
  refine lv_aload_n hx hb dX2_clear_5 rfl (lv_at hl 0 rfl) ?_
  refine lv_iconst (v := nI 0) hx hb dX2_clear_6 (by decide) ?_
  refine va_put (D := (dC, dI)) (ci := 1) (v := .int (nI 0)) (ty := .int) (C := RX2) (T := TX2) (N := 4) hx hb hts hinX2 tyX2 tyX2_ok nmX2 hown hK hP hD hS 0 rfl rfl 3 (by decide) hf_22 (fun _ h9 => h9) rfl (by decide +kernel) rfl rfl (Nat.le_of_ble_eq_true rfl) dX2_clear_7 (fun H locs hP hD hS => ?_)
  have hP : va_P (dC, dI) vwCl (wW cA v0 v1 v2 bt 0 op 0) H := hP
  have hD : va_D A (wW cA v0 v1 v2 bt 0 op 0) := hD
  have hP9 : va_P (dC, dI) vwCl (vX2_clear cA v0 v1 v2 bt wz op dp (0, 0)) _ := hP
  have hD9 : va_D A (vX2_clear cA v0 v1 v2 bt wz op dp (0, 0)) := hD
  have hq9 : pX2_clear v0 v1 v2 bt wz op dp (0, 0) := ⟨rfl, rfl⟩
  exact W.vret hx hb hr (fun t ht hW => ⟨⟨(0, 0), rfl, hq9, by rw [ht]; exact hP9, va_K.moved hW.alike hK, hD9⟩, hS.F ht⟩) hS.2.2 dX2_clear_10
abbrev pX2_hasRoom (v0 : Nat) (v1 : Nat) (v2 : Nat) (bt : Nat → Nat) (wz : Nat) (op : Nat → Nat) (dp : Nat) (cnt : Nat) : Int32 → Unit → Prop := fun (r : Int32) (u : Unit) => r = if wz + cnt ≤ 300 then 1 else 0
abbrev vX2_hasRoom (cA : ClassId) (v0 : Nat) (v1 : Nat) (v2 : Nat) (bt : Nat → Nat) (wz : Nat) (op : Nat → Nat) (dp : Nat) (cnt : Nat) : Unit → va_W := fun (u : Unit) => wW cA v0 v1 v2 bt wz op dp
abbrev qX2_hasRoom (dC : Nat → ClassId) (dI : Nat → Nat → Nat) (cA : ClassId) (A : Nat → Prop) (v0 : Nat) (v1 : Nat) (v2 : Nat) (bt : Nat → Nat) (wz : Nat) (op : Nat → Nat) (dp : Nat) (cnt : Nat) : Array Value → State → Outcome → State → Prop := va_Qi (pX2_hasRoom v0 v1 v2 bt wz op dp cnt) (fun u => cAft dC dI cA A (vX2_hasRoom cA v0 v1 v2 bt wz op dp cnt u)) A
set_option maxHeartbeats 4000000 in
set_option maxRecDepth 100000 in
theorem k_X2_hasRoom (l : Launch) (dC : Nat → ClassId) (dI : Nat → Nat → Nat) (cA : ClassId) (v0 : Nat) (v1 : Nat) (v2 : Nat) (bt : Nat → Nat) (wz : Nat) (op : Nat → Nat) (dp : Nat) (cnt : Nat) (sz : Nat) (hwz : wz ≤ 300) (hcn : cnt ≤ 300) : Met l yX2_hasRoom wsX2_hasRoom ({ frames := 0, cells := 0, slots := 0, locals := 0 } : Room) (va_Pc [.ref v0, .int (nI cnt)] (cPre dC dI cA (wW cA v0 v1 v2 bt wz op dp) sz)) (qX2_hasRoom dC dI cA (va_A (wW cA v0 v1 v2 bt wz op dp) sz) v0 v1 v2 bt wz op dp cnt) 0 0 (va_A (wW cA v0 v1 v2 bt wz op dp) sz) := by
  refine Met.ofW (cc := cX2_hasRoom) (maxL := 2) (ret := (some .boolean)) (by decide) rfl ?_
  intro p e s m args below meth c s₁ B hml hv
  obtain ⟨rfl, hsz, hP, hK, hD0⟩ := hv
  have hx := B.exec
  have hb := B.bytes
  have hr := B.returns
  have hts := atoms_spec (ws := wsX2_hasRoom) B.pre
  have hown : s.vm.findClass RX2 = some m.cls := findClass_of_methodNamed B.named
  have hlocks := B.notSynchronized
  subst hsz
  have hD := hD0.self (sz := s.heap.size)
  generalize hAe : va_A (wW cA v0 v1 v2 bt wz op dp) s.heap.size = A at hD ⊢
  have hA : ∀ q : Nat, s.heap.size ≤ q → A q := fun q h => by rw [← hAe]; exact Or.inr h
  have hS : va_S A s.heap s.heap [] := va_S.rf
  have hl := lv_entry ([.ref v0, .int (nI cnt)]) (n := 2) (Nat.le_of_ble_eq_true rfl)
  rw [lg_entry_eq]
  generalize (lg_sl ([.ref v0, .int (nI cnt)]) ++ List.replicate (2 - (lg_sl ([.ref v0, .int (nI cnt)])).length) Slot.unset).toArray = ls at hl ⊢
  have hl : lv_has ls 2 [(0, .ref v0), (1, .int (nI cnt))] := hl
  have hinX2 : ∀ w ∈ wsX20, w ∈ wsX2_hasRoom := fun _ h => List.mem_cons_of_mem _ (List.mem_append_right _ h)
  have hf_15 := hts (.fieldLink RX2 15 "DerDesk$Writer" "size" "I") (by decide +kernel)
  have hP : va_P (dC, dI) vwCl (wW cA v0 v1 v2 bt wz op dp) s.heap := hP
  refine lv_aload_n hx hb dX2_hasRoom_0 rfl (lv_at hl 0 rfl) ?_
  refine va_get (D := (dC, dI)) (ci := 1) (v := .int (nI wz)) (C := RX2) (T := TX2) (N := 4) hx hb hts hinX2 hown hK hP 0 rfl rfl 1 (by decide) hf_15 (fun _ h9 => h9) rfl dX2_hasRoom_1 ?_
  refine lv_iload_n hx hb dX2_hasRoom_4 rfl (lv_at hl 1 rfl) ?_
  refine hl_iadd hx hb dX2_hasRoom_5 ?_
  refine lv_sipush (v := nI 300) hx hb dX2_hasRoom_6 (by decide) ?_
  refine hl_icmp_gt (tgt := 16) hx hb dX2_hasRoom_9 (by decide) (by omega) (by omega) (fun c_1 => ?_) (fun c_1 => ?_)
  · refine lv_iconst (v := nI 0) hx hb dX2_hasRoom_16 (by decide) ?_
    have hP9 : va_P (dC, dI) vwCl (vX2_hasRoom cA v0 v1 v2 bt wz op dp cnt ()) _ := hP
    have hD9 : va_D A (vX2_hasRoom cA v0 v1 v2 bt wz op dp cnt ()) := hD
    have hq9 : pX2_hasRoom v0 v1 v2 bt wz op dp cnt (nI 0) () := (if_neg (by omega)).symm
    exact W.zret (v := nI 0) hx hb hr rfl (fun t ht hW => ⟨⟨nI 0, (), rfl, hq9, by rw [ht]; exact hP9, va_K.moved hW.alike hK, hD9⟩, hS.F ht⟩) hS.2.2 dX2_hasRoom_17
  · refine lv_iconst (v := nI 1) hx hb dX2_hasRoom_12 (by decide) ?_
    refine lv_goto (tgt := 17) hx hb dX2_hasRoom_13 (by decide) ?_
    have hP9 : va_P (dC, dI) vwCl (vX2_hasRoom cA v0 v1 v2 bt wz op dp cnt ()) _ := hP
    have hD9 : va_D A (vX2_hasRoom cA v0 v1 v2 bt wz op dp cnt ()) := hD
    have hq9 : pX2_hasRoom v0 v1 v2 bt wz op dp cnt (nI 1) () := (if_pos (by omega)).symm
    exact W.zret (v := nI 1) hx hb hr rfl (fun t ht hW => ⟨⟨nI 1, (), rfl, hq9, by rw [ht]; exact hP9, va_K.moved hW.alike hK, hD9⟩, hS.F ht⟩) hS.2.2 dX2_hasRoom_17
abbrev pX2_append (v0 : Nat) (v1 : Nat) (v2 : Nat) (bt : Nat → Nat) (wz : Nat) (op : Nat → Nat) (dp : Nat) (x : Nat) : (Nat → Nat) × Nat → Prop := fun (u : (Nat → Nat) × Nat) => match u with | (bt2, wz2) => bt2 = va_up bt wz x ∧ wz2 = wz + 1
abbrev vX2_append (cA : ClassId) (v0 : Nat) (v1 : Nat) (v2 : Nat) (bt : Nat → Nat) (wz : Nat) (op : Nat → Nat) (dp : Nat) (x : Nat) : (Nat → Nat) × Nat → va_W := fun (u : (Nat → Nat) × Nat) => match u with | (bt2, wz2) => wW cA v0 v1 v2 bt2 wz2 op dp
abbrev qX2_append (dC : Nat → ClassId) (dI : Nat → Nat → Nat) (cA : ClassId) (A : Nat → Prop) (v0 : Nat) (v1 : Nat) (v2 : Nat) (bt : Nat → Nat) (wz : Nat) (op : Nat → Nat) (dp : Nat) (x : Nat) : Array Value → State → Outcome → State → Prop := va_Qv (pX2_append v0 v1 v2 bt wz op dp x) (fun u => cAft dC dI cA A (vX2_append cA v0 v1 v2 bt wz op dp x u)) A
set_option maxHeartbeats 4000000 in
set_option maxRecDepth 100000 in
theorem k_X2_append (l : Launch) (dC : Nat → ClassId) (dI : Nat → Nat → Nat) (cA : ClassId) (v0 : Nat) (v1 : Nat) (v2 : Nat) (bt : Nat → Nat) (wz : Nat) (op : Nat → Nat) (dp : Nat) (x : Nat) (sz : Nat) (hw3 : wz < 300) : Met l yX2_append wsX2_append ({ frames := 0, cells := 0, slots := 0, locals := 0 } : Room) (va_Pc [.ref v0, .int (nI x)] (cPre dC dI cA (wW cA v0 v1 v2 bt wz op dp) sz)) (qX2_append dC dI cA (va_A (wW cA v0 v1 v2 bt wz op dp) sz) v0 v1 v2 bt wz op dp x) 0 0 (va_A (wW cA v0 v1 v2 bt wz op dp) sz) := by
  refine Met.ofW (cc := cX2_append) (maxL := 2) (ret := none) (by decide) rfl ?_
  intro p e s m args below meth c s₁ B hml hv
  obtain ⟨rfl, hsz, hP, hK, hD0⟩ := hv
  have hx := B.exec
  have hb := B.bytes
  have hr := B.returns
  have hts := atoms_spec (ws := wsX2_append) B.pre
  have hown : s.vm.findClass RX2 = some m.cls := findClass_of_methodNamed B.named
  have hlocks := B.notSynchronized
  subst hsz
  have hD := hD0.self (sz := s.heap.size)
  generalize hAe : va_A (wW cA v0 v1 v2 bt wz op dp) s.heap.size = A at hD ⊢
  have hA : ∀ q : Nat, s.heap.size ≤ q → A q := fun q h => by rw [← hAe]; exact Or.inr h
  have hS : va_S A s.heap s.heap [] := va_S.rf
  have hl := lv_entry ([.ref v0, .int (nI x)]) (n := 2) (Nat.le_of_ble_eq_true rfl)
  rw [lg_entry_eq]
  generalize (lg_sl ([.ref v0, .int (nI x)]) ++ List.replicate (2 - (lg_sl ([.ref v0, .int (nI x)])).length) Slot.unset).toArray = ls at hl ⊢
  have hl : lv_has ls 2 [(0, .ref v0), (1, .int (nI x))] := hl
  have hinX2 : ∀ w ∈ wsX20, w ∈ wsX2_append := fun _ h => List.mem_cons_of_mem _ (List.mem_append_right _ h)
  have hf_9 := hts (.fieldLink RX2 9 "DerDesk$Writer" "bytes" "[I") (by decide +kernel)
  have hf_15 := hts (.fieldLink RX2 15 "DerDesk$Writer" "size" "I") (by decide +kernel)
  have hP : va_P (dC, dI) vwCl (wW cA v0 v1 v2 bt wz op dp) s.heap := hP
  refine lv_aload_n hx hb dX2_append_0 rfl (lv_at hl 0 rfl) ?_
  refine va_get (D := (dC, dI)) (ci := 1) (v := .int (nI wz)) (C := RX2) (T := TX2) (N := 4) hx hb hts hinX2 hown hK hP 0 rfl rfl 1 (by decide) hf_15 (fun _ h9 => h9) rfl dX2_append_1 ?_
  refine lv_sipush (v := nI 300) hx hb dX2_append_4 (by decide) ?_
  refine hl_icmp_ge (tgt := 30) hx hb dX2_append_7 (by decide) (by omega) (by omega) (fun c_1 => absurd c_1 (by omega)) (fun c_1 => ?_)
  refine lv_aload_n hx hb dX2_append_10 rfl (lv_at hl 0 rfl) ?_
  refine va_get (D := (dC, dI)) (ci := 1) (v := .ref v1) (C := RX2) (T := TX2) (N := 4) hx hb hts hinX2 hown hK hP 0 rfl rfl 0 (by decide) hf_9 (fun _ h9 => h9) rfl dX2_append_11 ?_
  refine lv_aload_n hx hb dX2_append_14 rfl (lv_at hl 0 rfl) ?_
  refine va_get (D := (dC, dI)) (ci := 1) (v := .int (nI wz)) (C := RX2) (T := TX2) (N := 4) hx hb hts hinX2 hown hK hP 0 rfl rfl 1 (by decide) hf_15 (fun _ h9 => h9) rfl dX2_append_15 ?_
  refine lv_iload_n hx hb dX2_append_18 rfl (lv_at hl 1 rfl) ?_
  refine hl_iast hx hb hK hP hD hS 1 0 rfl rfl (by omega) (by decide) dX2_append_19 (fun H locs hP hD hS => ?_)
  have hP : va_P (dC, dI) vwCl (wW cA v0 v1 v2 (va_up bt wz x) wz op dp) H := hP
  have hD : va_D A (wW cA v0 v1 v2 (va_up bt wz x) wz op dp) := hD
  refine lv_aload_n hx hb dX2_append_20 rfl (lv_at hl 0 rfl) ?_
  refine lv_dup hx hb dX2_append_21 rfl ?_
  refine va_get (D := (dC, dI)) (ci := 1) (v := .int (nI wz)) (C := RX2) (T := TX2) (N := 4) hx hb hts hinX2 hown hK hP 0 rfl rfl 1 (by decide) hf_15 (fun _ h9 => h9) rfl dX2_append_22 ?_
  refine lv_iconst (v := nI 1) hx hb dX2_append_25 (by decide) ?_
  refine hl_iadd hx hb dX2_append_26 ?_
  refine va_put (D := (dC, dI)) (ci := 1) (v := .int (nI (wz + 1))) (ty := .int) (C := RX2) (T := TX2) (N := 4) hx hb hts hinX2 tyX2 tyX2_ok nmX2 hown hK hP hD hS 0 rfl rfl 1 (by decide) hf_15 (fun _ h9 => h9) rfl (by decide +kernel) rfl rfl (Nat.le_of_ble_eq_true rfl) dX2_append_27 (fun H locs hP hD hS => ?_)
  have hP : va_P (dC, dI) vwCl (wW cA v0 v1 v2 (va_up bt wz x) (wz + 1) op dp) H := hP
  have hD : va_D A (wW cA v0 v1 v2 (va_up bt wz x) (wz + 1) op dp) := hD
  have hP9 : va_P (dC, dI) vwCl (vX2_append cA v0 v1 v2 bt wz op dp x (va_up bt wz x, wz + 1)) _ := hP
  have hD9 : va_D A (vX2_append cA v0 v1 v2 bt wz op dp x (va_up bt wz x, wz + 1)) := hD
  have hq9 : pX2_append v0 v1 v2 bt wz op dp x (va_up bt wz x, wz + 1) := ⟨rfl, rfl⟩
  exact W.vret hx hb hr (fun t ht hW => ⟨⟨(va_up bt wz x, wz + 1), rfl, hq9, by rw [ht]; exact hP9, va_K.moved hW.alike hK, hD9⟩, hS.F ht⟩) hS.2.2 dX2_append_30
abbrev pX2_openTag (v0 : Nat) (v1 : Nat) (v2 : Nat) (bt : Nat → Nat) (wz : Nat) (op : Nat → Nat) (dp : Nat) : Int32 → Unit → Prop := fun (r : Int32) (u : Unit) => (dp = 0 ∧ r = -1) ∨ (0 < dp ∧ r = nI (bt (op (dp - 1))))
abbrev vX2_openTag (cA : ClassId) (v0 : Nat) (v1 : Nat) (v2 : Nat) (bt : Nat → Nat) (wz : Nat) (op : Nat → Nat) (dp : Nat) : Unit → va_W := fun (u : Unit) => wW cA v0 v1 v2 bt wz op dp
abbrev qX2_openTag (dC : Nat → ClassId) (dI : Nat → Nat → Nat) (cA : ClassId) (A : Nat → Prop) (v0 : Nat) (v1 : Nat) (v2 : Nat) (bt : Nat → Nat) (wz : Nat) (op : Nat → Nat) (dp : Nat) : Array Value → State → Outcome → State → Prop := va_Qi (pX2_openTag v0 v1 v2 bt wz op dp) (fun u => cAft dC dI cA A (vX2_openTag cA v0 v1 v2 bt wz op dp u)) A
set_option maxHeartbeats 4000000 in
set_option maxRecDepth 100000 in
theorem k_X2_openTag (l : Launch) (dC : Nat → ClassId) (dI : Nat → Nat → Nat) (cA : ClassId) (v0 : Nat) (v1 : Nat) (v2 : Nat) (bt : Nat → Nat) (wz : Nat) (op : Nat → Nat) (dp : Nat) (sz : Nat) (hbt : ∀ j, bt j < 256) (hwz : wz ≤ 300) (hdp : dp ≤ 16) (hop : ∀ j, j < dp → op j < wz) : Met l yX2_openTag wsX2_openTag ({ frames := 0, cells := 0, slots := 0, locals := 0 } : Room) (va_Pc [.ref v0] (cPre dC dI cA (wW cA v0 v1 v2 bt wz op dp) sz)) (qX2_openTag dC dI cA (va_A (wW cA v0 v1 v2 bt wz op dp) sz) v0 v1 v2 bt wz op dp) 0 0 (va_A (wW cA v0 v1 v2 bt wz op dp) sz) := by
  refine Met.ofW (cc := cX2_openTag) (maxL := 1) (ret := (some .int)) (by decide) rfl ?_
  intro p e s m args below meth c s₁ B hml hv
  obtain ⟨rfl, hsz, hP, hK, hD0⟩ := hv
  have hx := B.exec
  have hb := B.bytes
  have hr := B.returns
  have hts := atoms_spec (ws := wsX2_openTag) B.pre
  have hown : s.vm.findClass RX2 = some m.cls := findClass_of_methodNamed B.named
  have hlocks := B.notSynchronized
  subst hsz
  have hD := hD0.self (sz := s.heap.size)
  generalize hAe : va_A (wW cA v0 v1 v2 bt wz op dp) s.heap.size = A at hD ⊢
  have hA : ∀ q : Nat, s.heap.size ≤ q → A q := fun q h => by rw [← hAe]; exact Or.inr h
  have hS : va_S A s.heap s.heap [] := va_S.rf
  have hl := lv_entry ([.ref v0]) (n := 1) (Nat.le_of_ble_eq_true rfl)
  rw [lg_entry_eq]
  generalize (lg_sl ([.ref v0]) ++ List.replicate (1 - (lg_sl ([.ref v0])).length) Slot.unset).toArray = ls at hl ⊢
  have hl : lv_has ls 1 [(0, .ref v0)] := hl
  have hinX2 : ∀ w ∈ wsX20, w ∈ wsX2_openTag := fun _ h => List.mem_cons_of_mem _ (List.mem_append_right _ h)
  have hf_9 := hts (.fieldLink RX2 9 "DerDesk$Writer" "bytes" "[I") (by decide +kernel)
  have hf_19 := hts (.fieldLink RX2 19 "DerDesk$Writer" "opened" "[I") (by decide +kernel)
  have hf_22 := hts (.fieldLink RX2 22 "DerDesk$Writer" "depth" "I") (by decide +kernel)
  have hP : va_P (dC, dI) vwCl (wW cA v0 v1 v2 bt wz op dp) s.heap := hP
  refine lv_aload_n hx hb dX2_openTag_0 rfl (lv_at hl 0 rfl) ?_
  refine va_get (D := (dC, dI)) (ci := 1) (v := .int (nI dp)) (C := RX2) (T := TX2) (N := 4) hx hb hts hinX2 hown hK hP 0 rfl rfl 3 (by decide) hf_22 (fun _ h9 => h9) rfl dX2_openTag_1 ?_
  refine hl_if_ne (tgt := 11) hx hb dX2_openTag_4 (by decide) (by omega) (fun c_1 => ?_) (fun c_1 => ?_)
  · refine lv_aload_n hx hb dX2_openTag_11 rfl (lv_at hl 0 rfl) ?_
    refine va_get (D := (dC, dI)) (ci := 1) (v := .ref v1) (C := RX2) (T := TX2) (N := 4) hx hb hts hinX2 hown hK hP 0 rfl rfl 0 (by decide) hf_9 (fun _ h9 => h9) rfl dX2_openTag_12 ?_
    refine lv_aload_n hx hb dX2_openTag_15 rfl (lv_at hl 0 rfl) ?_
    refine va_get (D := (dC, dI)) (ci := 1) (v := .ref v2) (C := RX2) (T := TX2) (N := 4) hx hb hts hinX2 hown hK hP 0 rfl rfl 2 (by decide) hf_19 (fun _ h9 => h9) rfl dX2_openTag_16 ?_
    refine lv_aload_n hx hb dX2_openTag_19 rfl (lv_at hl 0 rfl) ?_
    refine va_get (D := (dC, dI)) (ci := 1) (v := .int (nI dp)) (C := RX2) (T := TX2) (N := 4) hx hb hts hinX2 hown hK hP 0 rfl rfl 3 (by decide) hf_22 (fun _ h9 => h9) rfl dX2_openTag_20 ?_
    refine lv_iconst (v := nI 1) hx hb dX2_openTag_23 (by decide) ?_
    refine hl_isub hx hb (by omega) dX2_openTag_24 ?_
    refine hl_iald hx hb hK hP 2 0 rfl rfl (by omega) (by decide) dX2_openTag_25 ?_
    refine hl_iald hx hb hK hP 1 0 rfl rfl (by have := hop (dp - 1) (by omega); omega) (by decide) dX2_openTag_26 ?_
    have hP9 : va_P (dC, dI) vwCl (vX2_openTag cA v0 v1 v2 bt wz op dp ()) _ := hP
    have hD9 : va_D A (vX2_openTag cA v0 v1 v2 bt wz op dp ()) := hD
    have hq9 : pX2_openTag v0 v1 v2 bt wz op dp (nI (bt (op (dp - 1)))) () := Or.inr ⟨by omega, rfl⟩
    exact W.iret (v := nI (bt (op (dp - 1)))) hx hb hr (fun t ht hW => ⟨⟨nI (bt (op (dp - 1))), (), rfl, hq9, by rw [ht]; exact hP9, va_K.moved hW.alike hK, hD9⟩, hS.F ht⟩) hS.2.2 dX2_openTag_27
  · refine lv_iconst (v := (-1)) hx hb dX2_openTag_7 (by decide) ?_
    refine lv_goto (tgt := 27) hx hb dX2_openTag_8 (by decide) ?_
    have hP9 : va_P (dC, dI) vwCl (vX2_openTag cA v0 v1 v2 bt wz op dp ()) _ := hP
    have hD9 : va_D A (vX2_openTag cA v0 v1 v2 bt wz op dp ()) := hD
    have hq9 : pX2_openTag v0 v1 v2 bt wz op dp ((-1)) () := Or.inl ⟨by assumption, rfl⟩
    exact W.iret (v := (-1)) hx hb hr (fun t ht hW => ⟨⟨(-1), (), rfl, hq9, by rw [ht]; exact hP9, va_K.moved hW.alike hK, hD9⟩, hS.F ht⟩) hS.2.2 dX2_openTag_27
abbrev pX2_openLength (v0 : Nat) (v1 : Nat) (v2 : Nat) (bt : Nat → Nat) (wz : Nat) (op : Nat → Nat) (dp : Nat) : Int32 → Unit → Prop := fun (r : Int32) (u : Unit) => r = nI (if dp = 0 then 0 else wz - op (dp - 1) - 1)
abbrev vX2_openLength (cA : ClassId) (v0 : Nat) (v1 : Nat) (v2 : Nat) (bt : Nat → Nat) (wz : Nat) (op : Nat → Nat) (dp : Nat) : Unit → va_W := fun (u : Unit) => wW cA v0 v1 v2 bt wz op dp
abbrev qX2_openLength (dC : Nat → ClassId) (dI : Nat → Nat → Nat) (cA : ClassId) (A : Nat → Prop) (v0 : Nat) (v1 : Nat) (v2 : Nat) (bt : Nat → Nat) (wz : Nat) (op : Nat → Nat) (dp : Nat) : Array Value → State → Outcome → State → Prop := va_Qi (pX2_openLength v0 v1 v2 bt wz op dp) (fun u => cAft dC dI cA A (vX2_openLength cA v0 v1 v2 bt wz op dp u)) A
set_option maxHeartbeats 4000000 in
set_option maxRecDepth 100000 in
theorem k_X2_openLength (l : Launch) (dC : Nat → ClassId) (dI : Nat → Nat → Nat) (cA : ClassId) (v0 : Nat) (v1 : Nat) (v2 : Nat) (bt : Nat → Nat) (wz : Nat) (op : Nat → Nat) (dp : Nat) (sz : Nat) (hwz : wz ≤ 300) (hdp : dp ≤ 16) (hop : ∀ j, j < dp → op j < wz) : Met l yX2_openLength wsX2_openLength ({ frames := 0, cells := 0, slots := 0, locals := 0 } : Room) (va_Pc [.ref v0] (cPre dC dI cA (wW cA v0 v1 v2 bt wz op dp) sz)) (qX2_openLength dC dI cA (va_A (wW cA v0 v1 v2 bt wz op dp) sz) v0 v1 v2 bt wz op dp) 0 0 (va_A (wW cA v0 v1 v2 bt wz op dp) sz) := by
  refine Met.ofW (cc := cX2_openLength) (maxL := 1) (ret := (some .int)) (by decide) rfl ?_
  intro p e s m args below meth c s₁ B hml hv
  obtain ⟨rfl, hsz, hP, hK, hD0⟩ := hv
  have hx := B.exec
  have hb := B.bytes
  have hr := B.returns
  have hts := atoms_spec (ws := wsX2_openLength) B.pre
  have hown : s.vm.findClass RX2 = some m.cls := findClass_of_methodNamed B.named
  have hlocks := B.notSynchronized
  subst hsz
  have hD := hD0.self (sz := s.heap.size)
  generalize hAe : va_A (wW cA v0 v1 v2 bt wz op dp) s.heap.size = A at hD ⊢
  have hA : ∀ q : Nat, s.heap.size ≤ q → A q := fun q h => by rw [← hAe]; exact Or.inr h
  have hS : va_S A s.heap s.heap [] := va_S.rf
  have hl := lv_entry ([.ref v0]) (n := 1) (Nat.le_of_ble_eq_true rfl)
  rw [lg_entry_eq]
  generalize (lg_sl ([.ref v0]) ++ List.replicate (1 - (lg_sl ([.ref v0])).length) Slot.unset).toArray = ls at hl ⊢
  have hl : lv_has ls 1 [(0, .ref v0)] := hl
  have hinX2 : ∀ w ∈ wsX20, w ∈ wsX2_openLength := fun _ h => List.mem_cons_of_mem _ (List.mem_append_right _ h)
  have hf_15 := hts (.fieldLink RX2 15 "DerDesk$Writer" "size" "I") (by decide +kernel)
  have hf_19 := hts (.fieldLink RX2 19 "DerDesk$Writer" "opened" "[I") (by decide +kernel)
  have hf_22 := hts (.fieldLink RX2 22 "DerDesk$Writer" "depth" "I") (by decide +kernel)
  have hP : va_P (dC, dI) vwCl (wW cA v0 v1 v2 bt wz op dp) s.heap := hP
  refine lv_aload_n hx hb dX2_openLength_0 rfl (lv_at hl 0 rfl) ?_
  refine va_get (D := (dC, dI)) (ci := 1) (v := .int (nI dp)) (C := RX2) (T := TX2) (N := 4) hx hb hts hinX2 hown hK hP 0 rfl rfl 3 (by decide) hf_22 (fun _ h9 => h9) rfl dX2_openLength_1 ?_
  refine hl_if_ne (tgt := 11) hx hb dX2_openLength_4 (by decide) (by omega) (fun c_1 => ?_) (fun c_1 => ?_)
  · refine lv_aload_n hx hb dX2_openLength_11 rfl (lv_at hl 0 rfl) ?_
    refine va_get (D := (dC, dI)) (ci := 1) (v := .int (nI wz)) (C := RX2) (T := TX2) (N := 4) hx hb hts hinX2 hown hK hP 0 rfl rfl 1 (by decide) hf_15 (fun _ h9 => h9) rfl dX2_openLength_12 ?_
    refine lv_aload_n hx hb dX2_openLength_15 rfl (lv_at hl 0 rfl) ?_
    refine va_get (D := (dC, dI)) (ci := 1) (v := .ref v2) (C := RX2) (T := TX2) (N := 4) hx hb hts hinX2 hown hK hP 0 rfl rfl 2 (by decide) hf_19 (fun _ h9 => h9) rfl dX2_openLength_16 ?_
    refine lv_aload_n hx hb dX2_openLength_19 rfl (lv_at hl 0 rfl) ?_
    refine va_get (D := (dC, dI)) (ci := 1) (v := .int (nI dp)) (C := RX2) (T := TX2) (N := 4) hx hb hts hinX2 hown hK hP 0 rfl rfl 3 (by decide) hf_22 (fun _ h9 => h9) rfl dX2_openLength_20 ?_
    refine lv_iconst (v := nI 1) hx hb dX2_openLength_23 (by decide) ?_
    refine hl_isub hx hb (by omega) dX2_openLength_24 ?_
    refine hl_iald hx hb hK hP 2 0 rfl rfl (by omega) (by decide) dX2_openLength_25 ?_
    have ho := hop (dp - 1) (by omega)
    refine hl_isub hx hb (by omega) dX2_openLength_26 ?_
    refine lv_iconst (v := nI 1) hx hb dX2_openLength_27 (by decide) ?_
    refine hl_isub hx hb (by omega) dX2_openLength_28 ?_
    have hP9 : va_P (dC, dI) vwCl (vX2_openLength cA v0 v1 v2 bt wz op dp ()) _ := hP
    have hD9 : va_D A (vX2_openLength cA v0 v1 v2 bt wz op dp ()) := hD
    have hq9 : pX2_openLength v0 v1 v2 bt wz op dp (nI ((wz - (op (dp - 1))) - 1)) () := congrArg nI (by first | rw [if_pos (by assumption)] | rw [if_neg (by assumption)])
    exact W.iret (v := nI ((wz - (op (dp - 1))) - 1)) hx hb hr (fun t ht hW => ⟨⟨nI ((wz - (op (dp - 1))) - 1), (), rfl, hq9, by rw [ht]; exact hP9, va_K.moved hW.alike hK, hD9⟩, hS.F ht⟩) hS.2.2 dX2_openLength_29
  · refine lv_iconst (v := nI 0) hx hb dX2_openLength_7 (by decide) ?_
    refine lv_goto (tgt := 29) hx hb dX2_openLength_8 (by decide) ?_
    have hP9 : va_P (dC, dI) vwCl (vX2_openLength cA v0 v1 v2 bt wz op dp ()) _ := hP
    have hD9 : va_D A (vX2_openLength cA v0 v1 v2 bt wz op dp ()) := hD
    have hq9 : pX2_openLength v0 v1 v2 bt wz op dp (nI 0) () := congrArg nI (by first | rw [if_pos (by assumption)] | rw [if_neg (by assumption)])
    exact W.iret (v := nI 0) hx hb hr (fun t ht hW => ⟨⟨nI 0, (), rfl, hq9, by rw [ht]; exact hP9, va_K.moved hW.alike hK, hD9⟩, hS.F ht⟩) hS.2.2 dX2_openLength_29
abbrev pX2_canHoldValue (v0 : Nat) (v1 : Nat) (v2 : Nat) (bt : Nat → Nat) (wz : Nat) (op : Nat → Nat) (dp : Nat) : Int32 → Unit → Prop := fun (r : Int32) (u : Unit) => r = if canH dp wz bt op then 1 else 0
abbrev vX2_canHoldValue (cA : ClassId) (v0 : Nat) (v1 : Nat) (v2 : Nat) (bt : Nat → Nat) (wz : Nat) (op : Nat → Nat) (dp : Nat) : Unit → va_W := fun (u : Unit) => wW cA v0 v1 v2 bt wz op dp
abbrev qX2_canHoldValue (dC : Nat → ClassId) (dI : Nat → Nat → Nat) (cA : ClassId) (A : Nat → Prop) (v0 : Nat) (v1 : Nat) (v2 : Nat) (bt : Nat → Nat) (wz : Nat) (op : Nat → Nat) (dp : Nat) : Array Value → State → Outcome → State → Prop := va_Qi (pX2_canHoldValue v0 v1 v2 bt wz op dp) (fun u => cAft dC dI cA A (vX2_canHoldValue cA v0 v1 v2 bt wz op dp u)) A
set_option maxHeartbeats 4000000 in
set_option maxRecDepth 100000 in
theorem k_X2_canHoldValue (l : Launch) (dC : Nat → ClassId) (dI : Nat → Nat → Nat) (cA : ClassId) (v0 : Nat) (v1 : Nat) (v2 : Nat) (bt : Nat → Nat) (wz : Nat) (op : Nat → Nat) (dp : Nat) (sz : Nat) (hbt : ∀ j, bt j < 256) (hwz : wz ≤ 300) (hdp : dp ≤ 16) (hop : ∀ j, j < dp → op j < wz) : Met l yX2_canHoldValue wsX2_canHoldValue ({ frames := 1, cells := 0, slots := 0, locals := 20 } : Room) (va_Pc [.ref v0] (cPre dC dI cA (wW cA v0 v1 v2 bt wz op dp) sz)) (qX2_canHoldValue dC dI cA (va_A (wW cA v0 v1 v2 bt wz op dp) sz) v0 v1 v2 bt wz op dp) 0 0 (va_A (wW cA v0 v1 v2 bt wz op dp) sz) := by
  refine Met.ofW (cc := cX2_canHoldValue) (maxL := 1) (ret := (some .boolean)) (by decide) rfl ?_
  intro p e s m args below meth c s₁ B hml hv
  obtain ⟨rfl, hsz, hP, hK, hD0⟩ := hv
  have hx := B.exec
  have hb := B.bytes
  have hr := B.returns
  have hts := atoms_spec (ws := wsX2_canHoldValue) B.pre
  have hown : s.vm.findClass RX2 = some m.cls := findClass_of_methodNamed B.named
  have hlocks := B.notSynchronized
  subst hsz
  have hD := hD0.self (sz := s.heap.size)
  generalize hAe : va_A (wW cA v0 v1 v2 bt wz op dp) s.heap.size = A at hD ⊢
  have hA : ∀ q : Nat, s.heap.size ≤ q → A q := fun q h => by rw [← hAe]; exact Or.inr h
  have hS : va_S A s.heap s.heap [] := va_S.rf
  have hl := lv_entry ([.ref v0]) (n := 1) (Nat.le_of_ble_eq_true rfl)
  rw [lg_entry_eq]
  generalize (lg_sl ([.ref v0]) ++ List.replicate (1 - (lg_sl ([.ref v0])).length) Slot.unset).toArray = ls at hl ⊢
  have hl : lv_has ls 1 [(0, .ref v0)] := hl
  have hinX2 : ∀ w ∈ wsX20, w ∈ wsX2_canHoldValue := fun _ h => List.mem_cons_of_mem _ (List.mem_append_right _ h)
  have hf_15 := hts (.fieldLink RX2 15 "DerDesk$Writer" "size" "I") (by decide +kernel)
  have hf_22 := hts (.fieldLink RX2 22 "DerDesk$Writer" "depth" "I") (by decide +kernel)
  have hP : va_P (dC, dI) vwCl (wW cA v0 v1 v2 bt wz op dp) s.heap := hP
  refine lv_aload_n hx hb dX2_canHoldValue_0 rfl (lv_at hl 0 rfl) ?_
  refine va_get (D := (dC, dI)) (ci := 1) (v := .int (nI dp)) (C := RX2) (T := TX2) (N := 4) hx hb hts hinX2 hown hK hP 0 rfl rfl 3 (by decide) hf_22 (fun _ h9 => h9) rfl dX2_canHoldValue_1 ?_
  refine hl_if_ne (tgt := 22) hx hb dX2_canHoldValue_4 (by decide) (by omega) (fun c_1 => ?_) (fun c_1 => ?_)
  · refine lv_aload_n hx hb dX2_canHoldValue_22 rfl (lv_at hl 0 rfl) ?_
    refine cl_Vi (As := []) (rest := []) (wr := []) ⟨hx, hb, hml, hown, hts⟩ (k_X2_openTag l dC dI cA v0 v1 v2 bt wz op dp _ hbt hwz hdp hop) (cwV 0 hts gX2_canHoldValue_X2_openTag rfl rfl rfl (by decide +kernel) ⟨Nat.le_of_ble_eq_true rfl, Nat.le_of_ble_eq_true rfl⟩) hK hP hD hS hA [0, 1, 2] [] rfl rfl (by decide) (by decide) (by decide) (ci := 1) (q0 := 0) rfl rfl rfl rfl hl.1 rfl (Nat.le_of_ble_eq_true rfl) dX2_canHoldValue_23 ⟨Nat.le_of_ble_eq_true rfl, Nat.le_of_ble_eq_true rfl⟩ (fun r_2 u_2 H locs hw_2 hP hD hS => ?_)
    have hP : va_P (dC, dI) vwCl (wW cA v0 v1 v2 bt wz op dp) H := hP
    have hD : va_D A (wW cA v0 v1 v2 bt wz op dp) := hD
    have hw_2 : (dp = 0 ∧ r_2 = -1) ∨ (0 < dp ∧ r_2 = nI (bt (op (dp - 1)))) := hw_2
    have hw_2 := ((hw_2.resolve_left (fun h => absurd h.1 (by omega))).2).symm
    subst hw_2
    have hv_2 := hbt (op (dp - 1))
    refine lv_bipush (v := nI 48) hx hb dX2_canHoldValue_26 (by decide) ?_
    refine hl_icmp_ne (tgt := 35) hx hb dX2_canHoldValue_28 (by decide) (by omega) (by omega) (fun c_3 => ?_) (fun c_3 => ?_)
    · refine lv_iconst (v := nI 0) hx hb dX2_canHoldValue_35 (by decide) ?_
      have hP9 : va_P (dC, dI) vwCl (vX2_canHoldValue cA v0 v1 v2 bt wz op dp ()) _ := hP
      have hD9 : va_D A (vX2_canHoldValue cA v0 v1 v2 bt wz op dp ()) := hD
      have hq9 : pX2_canHoldValue v0 v1 v2 bt wz op dp (nI 0) () := (if_neg (by unfold canH; omega)).symm
      exact W.zret (v := nI 0) hx hb hr rfl (fun t ht hW => ⟨⟨nI 0, (), rfl, hq9, by rw [ht]; exact hP9, va_K.moved hW.alike hK, hD9⟩, hS.F ht⟩) hS.2.2 dX2_canHoldValue_36
    · refine lv_iconst (v := nI 1) hx hb dX2_canHoldValue_31 (by decide) ?_
      refine lv_goto (tgt := 36) hx hb dX2_canHoldValue_32 (by decide) ?_
      have hP9 : va_P (dC, dI) vwCl (vX2_canHoldValue cA v0 v1 v2 bt wz op dp ()) _ := hP
      have hD9 : va_D A (vX2_canHoldValue cA v0 v1 v2 bt wz op dp ()) := hD
      have hq9 : pX2_canHoldValue v0 v1 v2 bt wz op dp (nI 1) () := (if_pos (by unfold canH; omega)).symm
      exact W.zret (v := nI 1) hx hb hr rfl (fun t ht hW => ⟨⟨nI 1, (), rfl, hq9, by rw [ht]; exact hP9, va_K.moved hW.alike hK, hD9⟩, hS.F ht⟩) hS.2.2 dX2_canHoldValue_36
  · refine lv_aload_n hx hb dX2_canHoldValue_7 rfl (lv_at hl 0 rfl) ?_
    refine va_get (D := (dC, dI)) (ci := 1) (v := .int (nI wz)) (C := RX2) (T := TX2) (N := 4) hx hb hts hinX2 hown hK hP 0 rfl rfl 1 (by decide) hf_15 (fun _ h9 => h9) rfl dX2_canHoldValue_8 ?_
    refine hl_if_ne (tgt := 18) hx hb dX2_canHoldValue_11 (by decide) (by omega) (fun c_4 => ?_) (fun c_4 => ?_)
    · refine lv_iconst (v := nI 0) hx hb dX2_canHoldValue_18 (by decide) ?_
      refine lv_goto (tgt := 36) hx hb dX2_canHoldValue_19 (by decide) ?_
      have hP9 : va_P (dC, dI) vwCl (vX2_canHoldValue cA v0 v1 v2 bt wz op dp ()) _ := hP
      have hD9 : va_D A (vX2_canHoldValue cA v0 v1 v2 bt wz op dp ()) := hD
      have hq9 : pX2_canHoldValue v0 v1 v2 bt wz op dp (nI 0) () := (if_neg (by unfold canH; omega)).symm
      exact W.zret (v := nI 0) hx hb hr rfl (fun t ht hW => ⟨⟨nI 0, (), rfl, hq9, by rw [ht]; exact hP9, va_K.moved hW.alike hK, hD9⟩, hS.F ht⟩) hS.2.2 dX2_canHoldValue_36
    · refine lv_iconst (v := nI 1) hx hb dX2_canHoldValue_14 (by decide) ?_
      refine lv_goto (tgt := 36) hx hb dX2_canHoldValue_15 (by decide) ?_
      have hP9 : va_P (dC, dI) vwCl (vX2_canHoldValue cA v0 v1 v2 bt wz op dp ()) _ := hP
      have hD9 : va_D A (vX2_canHoldValue cA v0 v1 v2 bt wz op dp ()) := hD
      have hq9 : pX2_canHoldValue v0 v1 v2 bt wz op dp (nI 1) () := (if_pos (by unfold canH; omega)).symm
      exact W.zret (v := nI 1) hx hb hr rfl (fun t ht hW => ⟨⟨nI 1, (), rfl, hq9, by rw [ht]; exact hP9, va_K.moved hW.alike hK, hD9⟩, hS.F ht⟩) hS.2.2 dX2_canHoldValue_36
abbrev pX2_open (v0 : Nat) (v1 : Nat) (v2 : Nat) (bt : Nat → Nat) (wz : Nat) (op : Nat → Nat) (dp : Nat) (tag : Int32) : Int32 → (Nat → Nat) × Nat × (Nat → Nat) × Nat → Prop := fun (r : Int32) (u : (Nat → Nat) × Nat × (Nat → Nat) × Nat) => match u with | (bt2, wz2, op2, dp2) => r = begC tag dp wz bt op ∧ ((begC tag dp wz bt op = 0 ∧ isId tag ∧ canH dp wz bt op ∧ dp < 16 ∧ wz < 300 ∧ bt2 = va_up bt wz tag.toNatClampNeg ∧ wz2 = wz + 1 ∧ op2 = va_up op dp wz ∧ dp2 = dp + 1) ∨ (begC tag dp wz bt op ≠ 0 ∧ bt2 = bt ∧ wz2 = wz ∧ op2 = op ∧ dp2 = dp))
abbrev vX2_open (cA : ClassId) (v0 : Nat) (v1 : Nat) (v2 : Nat) (bt : Nat → Nat) (wz : Nat) (op : Nat → Nat) (dp : Nat) (tag : Int32) : (Nat → Nat) × Nat × (Nat → Nat) × Nat → va_W := fun (u : (Nat → Nat) × Nat × (Nat → Nat) × Nat) => match u with | (bt2, wz2, op2, dp2) => wW cA v0 v1 v2 bt2 wz2 op2 dp2
abbrev qX2_open (dC : Nat → ClassId) (dI : Nat → Nat → Nat) (cA : ClassId) (A : Nat → Prop) (v0 : Nat) (v1 : Nat) (v2 : Nat) (bt : Nat → Nat) (wz : Nat) (op : Nat → Nat) (dp : Nat) (tag : Int32) : Array Value → State → Outcome → State → Prop := va_Qi (pX2_open v0 v1 v2 bt wz op dp tag) (fun u => cAft dC dI cA A (vX2_open cA v0 v1 v2 bt wz op dp tag u)) A
set_option maxHeartbeats 4000000 in
set_option maxRecDepth 100000 in
theorem k_X2_open (l : Launch) (dC : Nat → ClassId) (dI : Nat → Nat → Nat) (cA : ClassId) (v0 : Nat) (v1 : Nat) (v2 : Nat) (bt : Nat → Nat) (wz : Nat) (op : Nat → Nat) (dp : Nat) (tag : Int32) (sz : Nat) (hbt : ∀ j, bt j < 256) (hwz : wz ≤ 300) (hdp : dp ≤ 16) (hop : ∀ j, j < dp → op j < wz) : Met l yX2_open wsX2_open ({ frames := 2, cells := 0, slots := 0, locals := 40 } : Room) (va_Pc [.ref v0, .int tag] (cPre dC dI cA (wW cA v0 v1 v2 bt wz op dp) sz)) (qX2_open dC dI cA (va_A (wW cA v0 v1 v2 bt wz op dp) sz) v0 v1 v2 bt wz op dp tag) 0 0 (va_A (wW cA v0 v1 v2 bt wz op dp) sz) := by
  refine Met.ofW (cc := cX2_open) (maxL := 2) (ret := (some .int)) (by decide) rfl ?_
  intro p e s m args below meth c s₁ B hml hv
  obtain ⟨rfl, hsz, hP, hK, hD0⟩ := hv
  have hx := B.exec
  have hb := B.bytes
  have hr := B.returns
  have hts := atoms_spec (ws := wsX2_open) B.pre
  have hown : s.vm.findClass RX2 = some m.cls := findClass_of_methodNamed B.named
  have hlocks := B.notSynchronized
  subst hsz
  have hD := hD0.self (sz := s.heap.size)
  generalize hAe : va_A (wW cA v0 v1 v2 bt wz op dp) s.heap.size = A at hD ⊢
  have hA : ∀ q : Nat, s.heap.size ≤ q → A q := fun q h => by rw [← hAe]; exact Or.inr h
  have hS : va_S A s.heap s.heap [] := va_S.rf
  have hl := lv_entry ([.ref v0, .int tag]) (n := 2) (Nat.le_of_ble_eq_true rfl)
  rw [lg_entry_eq]
  generalize (lg_sl ([.ref v0, .int tag]) ++ List.replicate (2 - (lg_sl ([.ref v0, .int tag])).length) Slot.unset).toArray = ls at hl ⊢
  have hl : lv_has ls 2 [(0, .ref v0), (1, .int tag)] := hl
  have hinX2 : ∀ w ∈ wsX20, w ∈ wsX2_open := fun _ h => List.mem_cons_of_mem _ (List.mem_append_right _ h)
  have hf_15 := hts (.fieldLink RX2 15 "DerDesk$Writer" "size" "I") (by decide +kernel)
  have hf_19 := hts (.fieldLink RX2 19 "DerDesk$Writer" "opened" "[I") (by decide +kernel)
  have hf_22 := hts (.fieldLink RX2 22 "DerDesk$Writer" "depth" "I") (by decide +kernel)
  have hP : va_P (dC, dI) vwCl (wW cA v0 v1 v2 bt wz op dp) s.heap := hP
  refine lv_iload_n hx hb dX2_open_0 rfl (lv_at hl 1 rfl) ?_
  refine cl_Si (As := [.int tag]) (rest := []) (wr := [(v0, .inr (1, [.ref v1, .int (nI wz), .ref v2, .int (nI dp)])), (v1, .inl (cA, 300, .inl (nA bt))), (v2, .inl (cA, 16, .inl (nA op)))]) ⟨hx, hb, hml, hown, hts⟩ (k_X1_isIdentifier l dC dI cA tag _ ) (va_cwS 1 hts gX2_open_X1_isIdentifier rfl rfl rfl (by decide +kernel) ⟨Nat.le_of_ble_eq_true rfl, Nat.le_of_ble_eq_true rfl⟩) hK hP hD hS hA [] [0, 1, 2] rfl rfl (by decide) (by decide) (by decide) rfl hl.1 rfl (Nat.le_of_ble_eq_true rfl) dX2_open_1 ⟨Nat.le_of_ble_eq_true rfl, Nat.le_of_ble_eq_true rfl⟩ (fun r_1 u_1 H locs hw_1 hP hD hS => ?_)
  have hP : va_P (dC, dI) vwCl (wW cA v0 v1 v2 bt wz op dp) H := hP
  have hD : va_D A (wW cA v0 v1 v2 bt wz op dp) := hD
  have hw_1 : r_1 = if isId tag then 1 else 0 := hw_1
  have hw_1 := hw_1.symm
  subst hw_1
  refine hl_ifb_ne (tgt := 9) hx hb dX2_open_4 (by decide) (fun c_2 => ?_) (fun c_2 => ?_)
  · refine lv_aload_n hx hb dX2_open_9 rfl (lv_at hl 0 rfl) ?_
    refine cl_Vi (As := []) (rest := []) (wr := []) ⟨hx, hb, hml, hown, hts⟩ (k_X2_canHoldValue l dC dI cA v0 v1 v2 bt wz op dp _ hbt hwz hdp hop) (cwV 0 hts gX2_open_X2_canHoldValue rfl rfl rfl (by decide +kernel) ⟨Nat.le_of_ble_eq_true rfl, Nat.le_of_ble_eq_true rfl⟩) hK hP hD hS hA [0, 1, 2] [] rfl rfl (by decide) (by decide) (by decide) (ci := 1) (q0 := 0) rfl rfl rfl rfl hl.1 rfl (Nat.le_of_ble_eq_true rfl) dX2_open_10 ⟨Nat.le_of_ble_eq_true rfl, Nat.le_of_ble_eq_true rfl⟩ (fun r_3 u_3 H locs hw_3 hP hD hS => ?_)
    have hP : va_P (dC, dI) vwCl (wW cA v0 v1 v2 bt wz op dp) H := hP
    have hD : va_D A (wW cA v0 v1 v2 bt wz op dp) := hD
    have hw_3 : r_3 = if canH dp wz bt op then 1 else 0 := hw_3
    have hw_3 := hw_3.symm
    subst hw_3
    refine hl_ifb_ne (tgt := 19) hx hb dX2_open_13 (by decide) (fun c_4 => ?_) (fun c_4 => ?_)
    · refine lv_aload_n hx hb dX2_open_19 rfl (lv_at hl 0 rfl) ?_
      refine va_get (D := (dC, dI)) (ci := 1) (v := .int (nI dp)) (C := RX2) (T := TX2) (N := 4) hx hb hts hinX2 hown hK hP 0 rfl rfl 3 (by decide) hf_22 (fun _ h9 => h9) rfl dX2_open_20 ?_
      refine lv_bipush (v := nI 16) hx hb dX2_open_23 (by decide) ?_
      refine hl_icmp_ge (tgt := 36) hx hb dX2_open_25 (by decide) (by omega) (by omega) (fun c_5 => ?_) (fun c_5 => ?_)
      · refine lv_bipush (v := (-3)) hx hb dX2_open_36 (by decide) ?_
        have hP9 : va_P (dC, dI) vwCl (vX2_open cA v0 v1 v2 bt wz op dp tag (bt, wz, op, dp)) _ := hP
        have hD9 : va_D A (vX2_open cA v0 v1 v2 bt wz op dp tag (bt, wz, op, dp)) := hD
        have hq9 : pX2_open v0 v1 v2 bt wz op dp tag ((-3)) (bt, wz, op, dp) := (by have e : begC tag dp wz bt op = (-3) := (by unfold begC; rw [if_neg (fun h => h (by assumption)), if_neg (fun h => h (by assumption)), if_pos (by omega)]); exact ⟨e.symm, Or.inr ⟨by rw [e]; decide, rfl, rfl, rfl, rfl⟩⟩)
        exact W.iret (v := (-3)) hx hb hr (fun t ht hW => ⟨⟨(-3), (bt, wz, op, dp), rfl, hq9, by rw [ht]; exact hP9, va_K.moved hW.alike hK, hD9⟩, hS.F ht⟩) hS.2.2 dX2_open_38
      · refine lv_aload_n hx hb dX2_open_28 rfl (lv_at hl 0 rfl) ?_
        refine lv_iconst (v := nI 1) hx hb dX2_open_29 (by decide) ?_
        refine cl_Vi (As := [.int (nI 1)]) (rest := []) (wr := []) ⟨hx, hb, hml, hown, hts⟩ (k_X2_hasRoom l dC dI cA v0 v1 v2 bt wz op dp 1 _ hwz (by omega)) (cwV 1 hts gX2_open_X2_hasRoom rfl rfl rfl (by decide +kernel) ⟨Nat.le_of_ble_eq_true rfl, Nat.le_of_ble_eq_true rfl⟩) hK hP hD hS hA [0, 1, 2] [] rfl rfl (by decide) (by decide) (by decide) (ci := 1) (q0 := 0) rfl rfl rfl rfl hl.1 rfl (Nat.le_of_ble_eq_true rfl) dX2_open_30 ⟨Nat.le_of_ble_eq_true rfl, Nat.le_of_ble_eq_true rfl⟩ (fun r_6 u_6 H locs hw_6 hP hD hS => ?_)
        have hP : va_P (dC, dI) vwCl (wW cA v0 v1 v2 bt wz op dp) H := hP
        have hD : va_D A (wW cA v0 v1 v2 bt wz op dp) := hD
        have hw_6 : r_6 = if wz + 1 ≤ 300 then 1 else 0 := hw_6
        have hw_6 := hw_6.symm
        subst hw_6
        refine hl_ifb_ne (tgt := 39) hx hb dX2_open_33 (by decide) (fun c_7 => ?_) (fun c_7 => ?_)
        · refine lv_aload_n hx hb dX2_open_39 rfl (lv_at hl 0 rfl) ?_
          refine va_get (D := (dC, dI)) (ci := 1) (v := .ref v2) (C := RX2) (T := TX2) (N := 4) hx hb hts hinX2 hown hK hP 0 rfl rfl 2 (by decide) hf_19 (fun _ h9 => h9) rfl dX2_open_40 ?_
          refine lv_aload_n hx hb dX2_open_43 rfl (lv_at hl 0 rfl) ?_
          refine va_get (D := (dC, dI)) (ci := 1) (v := .int (nI dp)) (C := RX2) (T := TX2) (N := 4) hx hb hts hinX2 hown hK hP 0 rfl rfl 3 (by decide) hf_22 (fun _ h9 => h9) rfl dX2_open_44 ?_
          refine lv_aload_n hx hb dX2_open_47 rfl (lv_at hl 0 rfl) ?_
          refine va_get (D := (dC, dI)) (ci := 1) (v := .int (nI wz)) (C := RX2) (T := TX2) (N := 4) hx hb hts hinX2 hown hK hP 0 rfl rfl 1 (by decide) hf_15 (fun _ h9 => h9) rfl dX2_open_48 ?_
          refine hl_iast hx hb hK hP hD hS 2 0 rfl rfl (by omega) (by decide) dX2_open_51 (fun H locs hP hD hS => ?_)
          have hP : va_P (dC, dI) vwCl (wW cA v0 v1 v2 bt wz (va_up op dp wz) dp) H := hP
          have hD : va_D A (wW cA v0 v1 v2 bt wz (va_up op dp wz) dp) := hD
          refine lv_aload_n hx hb dX2_open_52 rfl (lv_at hl 0 rfl) ?_
          refine lv_dup hx hb dX2_open_53 rfl ?_
          refine va_get (D := (dC, dI)) (ci := 1) (v := .int (nI dp)) (C := RX2) (T := TX2) (N := 4) hx hb hts hinX2 hown hK hP 0 rfl rfl 3 (by decide) hf_22 (fun _ h9 => h9) rfl dX2_open_54 ?_
          refine lv_iconst (v := nI 1) hx hb dX2_open_57 (by decide) ?_
          refine hl_iadd hx hb dX2_open_58 ?_
          refine va_put (D := (dC, dI)) (ci := 1) (v := .int (nI (dp + 1))) (ty := .int) (C := RX2) (T := TX2) (N := 4) hx hb hts hinX2 tyX2 tyX2_ok nmX2 hown hK hP hD hS 0 rfl rfl 3 (by decide) hf_22 (fun _ h9 => h9) rfl (by decide +kernel) rfl rfl (Nat.le_of_ble_eq_true rfl) dX2_open_59 (fun H locs hP hD hS => ?_)
          have hP : va_P (dC, dI) vwCl (wW cA v0 v1 v2 bt wz (va_up op dp wz) (dp + 1)) H := hP
          have hD : va_D A (wW cA v0 v1 v2 bt wz (va_up op dp wz) (dp + 1)) := hD
          refine lv_aload_n hx hb dX2_open_62 rfl (lv_at hl 0 rfl) ?_
          refine lv_iload_n hx hb dX2_open_63 rfl (lv_at hl 1 rfl) ?_
          have hid := id_of ‹isId tag›
          refine hl_top hid.1 ?_
          refine cl_Vv (As := [.int (nI tag.toNatClampNeg)]) (rest := []) (wr := []) ⟨hx, hb, hml, hown, hts⟩ (k_X2_append l dC dI cA v0 v1 v2 bt wz (va_up op dp wz) (dp + 1) tag.toNatClampNeg _ (by omega)) (cwV 1 hts gX2_open_X2_append rfl rfl rfl (by decide +kernel) ⟨Nat.le_of_ble_eq_true rfl, Nat.le_of_ble_eq_true rfl⟩) hK hP hD hS hA [0, 1, 2] [] rfl rfl (by decide) (by decide) (by decide) (ci := 1) (q0 := 0) rfl rfl rfl rfl hl.1 rfl (Nat.le_of_ble_eq_true rfl) dX2_open_64 ⟨Nat.le_of_ble_eq_true rfl, Nat.le_of_ble_eq_true rfl⟩ (fun u_8 H locs hw_8 hP hD hS => ?_)
          obtain ⟨bt2_8, wz2_8⟩ := u_8
          have hP : va_P (dC, dI) vwCl (wW cA v0 v1 v2 bt2_8 wz2_8 (va_up op dp wz) (dp + 1)) H := hP
          have hD : va_D A (wW cA v0 v1 v2 bt2_8 wz2_8 (va_up op dp wz) (dp + 1)) := hD
          have hw_8 : bt2_8 = va_up bt wz tag.toNatClampNeg ∧ wz2_8 = wz + 1 := hw_8
          obtain ⟨e0_8, e1_8⟩ := hw_8
          have e0_8 := e0_8.symm
          subst e0_8
          have e1_8 := e1_8.symm
          subst e1_8
          refine lv_iconst (v := nI 0) hx hb dX2_open_67 (by decide) ?_
          have hP9 : va_P (dC, dI) vwCl (vX2_open cA v0 v1 v2 bt wz op dp tag (va_up bt wz tag.toNatClampNeg, wz + 1, va_up op dp wz, dp + 1)) _ := hP
          have hD9 : va_D A (vX2_open cA v0 v1 v2 bt wz op dp tag (va_up bt wz tag.toNatClampNeg, wz + 1, va_up op dp wz, dp + 1)) := hD
          have hq9 : pX2_open v0 v1 v2 bt wz op dp tag (nI 0) (va_up bt wz tag.toNatClampNeg, wz + 1, va_up op dp wz, dp + 1) := (by have e : begC tag dp wz bt op = 0 := (by unfold begC; rw [if_neg (fun h => h (by assumption)), if_neg (fun h => h (by assumption)), if_neg (by omega)]); exact ⟨e.symm, Or.inl ⟨e, by assumption, by assumption, by omega, by omega, rfl, rfl, rfl, rfl⟩⟩)
          exact W.iret (v := nI 0) hx hb hr (fun t ht hW => ⟨⟨nI 0, (va_up bt wz tag.toNatClampNeg, wz + 1, va_up op dp wz, dp + 1), rfl, hq9, by rw [ht]; exact hP9, va_K.moved hW.alike hK, hD9⟩, hS.F ht⟩) hS.2.2 dX2_open_68
        · refine lv_bipush (v := (-3)) hx hb dX2_open_36 (by decide) ?_
          have hP9 : va_P (dC, dI) vwCl (vX2_open cA v0 v1 v2 bt wz op dp tag (bt, wz, op, dp)) _ := hP
          have hD9 : va_D A (vX2_open cA v0 v1 v2 bt wz op dp tag (bt, wz, op, dp)) := hD
          have hq9 : pX2_open v0 v1 v2 bt wz op dp tag ((-3)) (bt, wz, op, dp) := (by have e : begC tag dp wz bt op = (-3) := (by unfold begC; rw [if_neg (fun h => h (by assumption)), if_neg (fun h => h (by assumption)), if_pos (by omega)]); exact ⟨e.symm, Or.inr ⟨by rw [e]; decide, rfl, rfl, rfl, rfl⟩⟩)
          exact W.iret (v := (-3)) hx hb hr (fun t ht hW => ⟨⟨(-3), (bt, wz, op, dp), rfl, hq9, by rw [ht]; exact hP9, va_K.moved hW.alike hK, hD9⟩, hS.F ht⟩) hS.2.2 dX2_open_38
    · refine lv_bipush (v := (-2)) hx hb dX2_open_16 (by decide) ?_
      have hP9 : va_P (dC, dI) vwCl (vX2_open cA v0 v1 v2 bt wz op dp tag (bt, wz, op, dp)) _ := hP
      have hD9 : va_D A (vX2_open cA v0 v1 v2 bt wz op dp tag (bt, wz, op, dp)) := hD
      have hq9 : pX2_open v0 v1 v2 bt wz op dp tag ((-2)) (bt, wz, op, dp) := (by have e : begC tag dp wz bt op = (-2) := (by unfold begC; rw [if_neg (fun h => h (by assumption)), if_pos (by assumption)]); exact ⟨e.symm, Or.inr ⟨by rw [e]; decide, rfl, rfl, rfl, rfl⟩⟩)
      exact W.iret (v := (-2)) hx hb hr (fun t ht hW => ⟨⟨(-2), (bt, wz, op, dp), rfl, hq9, by rw [ht]; exact hP9, va_K.moved hW.alike hK, hD9⟩, hS.F ht⟩) hS.2.2 dX2_open_18
  · refine lv_iconst (v := (-1)) hx hb dX2_open_7 (by decide) ?_
    have hP9 : va_P (dC, dI) vwCl (vX2_open cA v0 v1 v2 bt wz op dp tag (bt, wz, op, dp)) _ := hP
    have hD9 : va_D A (vX2_open cA v0 v1 v2 bt wz op dp tag (bt, wz, op, dp)) := hD
    have hq9 : pX2_open v0 v1 v2 bt wz op dp tag ((-1)) (bt, wz, op, dp) := (by have e : begC tag dp wz bt op = (-1) := (by unfold begC; rw [if_pos (by assumption)]); exact ⟨e.symm, Or.inr ⟨by rw [e]; decide, rfl, rfl, rfl, rfl⟩⟩)
    exact W.iret (v := (-1)) hx hb hr (fun t ht hW => ⟨⟨(-1), (bt, wz, op, dp), rfl, hq9, by rw [ht]; exact hP9, va_K.moved hW.alike hK, hD9⟩, hS.F ht⟩) hS.2.2 dX2_open_8
abbrev pX2_addByte (v0 : Nat) (v1 : Nat) (v2 : Nat) (bt : Nat → Nat) (wz : Nat) (op : Nat → Nat) (dp : Nat) (b : Int32) : Int32 → (Nat → Nat) × Nat → Prop := fun (r : Int32) (u : (Nat → Nat) × Nat) => match u with | (bt2, wz2) => r = pbC b dp wz bt op ∧ ((pbC b dp wz bt op = 0 ∧ isB b ∧ wz < 300 ∧ bt2 = va_up bt wz b.toNatClampNeg ∧ wz2 = wz + 1) ∨ (pbC b dp wz bt op ≠ 0 ∧ bt2 = bt ∧ wz2 = wz))
abbrev vX2_addByte (cA : ClassId) (v0 : Nat) (v1 : Nat) (v2 : Nat) (bt : Nat → Nat) (wz : Nat) (op : Nat → Nat) (dp : Nat) (b : Int32) : (Nat → Nat) × Nat → va_W := fun (u : (Nat → Nat) × Nat) => match u with | (bt2, wz2) => wW cA v0 v1 v2 bt2 wz2 op dp
abbrev qX2_addByte (dC : Nat → ClassId) (dI : Nat → Nat → Nat) (cA : ClassId) (A : Nat → Prop) (v0 : Nat) (v1 : Nat) (v2 : Nat) (bt : Nat → Nat) (wz : Nat) (op : Nat → Nat) (dp : Nat) (b : Int32) : Array Value → State → Outcome → State → Prop := va_Qi (pX2_addByte v0 v1 v2 bt wz op dp b) (fun u => cAft dC dI cA A (vX2_addByte cA v0 v1 v2 bt wz op dp b u)) A
set_option maxHeartbeats 4000000 in
set_option maxRecDepth 100000 in
theorem k_X2_addByte (l : Launch) (dC : Nat → ClassId) (dI : Nat → Nat → Nat) (cA : ClassId) (v0 : Nat) (v1 : Nat) (v2 : Nat) (bt : Nat → Nat) (wz : Nat) (op : Nat → Nat) (dp : Nat) (b : Int32) (sz : Nat) (hbt : ∀ j, bt j < 256) (hwz : wz ≤ 300) (hdp : dp ≤ 16) (hop : ∀ j, j < dp → op j < wz) : Met l yX2_addByte wsX2_addByte ({ frames := 1, cells := 0, slots := 0, locals := 21 } : Room) (va_Pc [.ref v0, .int b] (cPre dC dI cA (wW cA v0 v1 v2 bt wz op dp) sz)) (qX2_addByte dC dI cA (va_A (wW cA v0 v1 v2 bt wz op dp) sz) v0 v1 v2 bt wz op dp b) 0 0 (va_A (wW cA v0 v1 v2 bt wz op dp) sz) := by
  refine Met.ofW (cc := cX2_addByte) (maxL := 2) (ret := (some .int)) (by decide) rfl ?_
  intro p e s m args below meth c s₁ B hml hv
  obtain ⟨rfl, hsz, hP, hK, hD0⟩ := hv
  have hx := B.exec
  have hb := B.bytes
  have hr := B.returns
  have hts := atoms_spec (ws := wsX2_addByte) B.pre
  have hown : s.vm.findClass RX2 = some m.cls := findClass_of_methodNamed B.named
  have hlocks := B.notSynchronized
  subst hsz
  have hD := hD0.self (sz := s.heap.size)
  generalize hAe : va_A (wW cA v0 v1 v2 bt wz op dp) s.heap.size = A at hD ⊢
  have hA : ∀ q : Nat, s.heap.size ≤ q → A q := fun q h => by rw [← hAe]; exact Or.inr h
  have hS : va_S A s.heap s.heap [] := va_S.rf
  have hl := lv_entry ([.ref v0, .int b]) (n := 2) (Nat.le_of_ble_eq_true rfl)
  rw [lg_entry_eq]
  generalize (lg_sl ([.ref v0, .int b]) ++ List.replicate (2 - (lg_sl ([.ref v0, .int b])).length) Slot.unset).toArray = ls at hl ⊢
  have hl : lv_has ls 2 [(0, .ref v0), (1, .int b)] := hl
  have hinX2 : ∀ w ∈ wsX20, w ∈ wsX2_addByte := fun _ h => List.mem_cons_of_mem _ (List.mem_append_right _ h)
  have hf_22 := hts (.fieldLink RX2 22 "DerDesk$Writer" "depth" "I") (by decide +kernel)
  have hP : va_P (dC, dI) vwCl (wW cA v0 v1 v2 bt wz op dp) s.heap := hP
  refine lv_iload_n hx hb dX2_addByte_0 rfl (lv_at hl 1 rfl) ?_
  refine cl_Si (As := [.int b]) (rest := []) (wr := [(v0, .inr (1, [.ref v1, .int (nI wz), .ref v2, .int (nI dp)])), (v1, .inl (cA, 300, .inl (nA bt))), (v2, .inl (cA, 16, .inl (nA op)))]) ⟨hx, hb, hml, hown, hts⟩ (k_X1_isByte l dC dI cA b _ ) (va_cwS 1 hts gX2_addByte_X1_isByte rfl rfl rfl (by decide +kernel) ⟨Nat.le_of_ble_eq_true rfl, Nat.le_of_ble_eq_true rfl⟩) hK hP hD hS hA [] [0, 1, 2] rfl rfl (by decide) (by decide) (by decide) rfl hl.1 rfl (Nat.le_of_ble_eq_true rfl) dX2_addByte_1 ⟨Nat.le_of_ble_eq_true rfl, Nat.le_of_ble_eq_true rfl⟩ (fun r_1 u_1 H locs hw_1 hP hD hS => ?_)
  have hP : va_P (dC, dI) vwCl (wW cA v0 v1 v2 bt wz op dp) H := hP
  have hD : va_D A (wW cA v0 v1 v2 bt wz op dp) := hD
  have hw_1 : r_1 = if isB b then 1 else 0 := hw_1
  have hw_1 := hw_1.symm
  subst hw_1
  refine hl_ifb_ne (tgt := 9) hx hb dX2_addByte_4 (by decide) (fun c_2 => ?_) (fun c_2 => ?_)
  · refine lv_aload_n hx hb dX2_addByte_9 rfl (lv_at hl 0 rfl) ?_
    refine va_get (D := (dC, dI)) (ci := 1) (v := .int (nI dp)) (C := RX2) (T := TX2) (N := 4) hx hb hts hinX2 hown hK hP 0 rfl rfl 3 (by decide) hf_22 (fun _ h9 => h9) rfl dX2_addByte_10 ?_
    refine hl_if_eq (tgt := 25) hx hb dX2_addByte_13 (by decide) (by omega) (fun c_3 => ?_) (fun c_3 => ?_)
    · refine lv_bipush (v := (-2)) hx hb dX2_addByte_25 (by decide) ?_
      have hP9 : va_P (dC, dI) vwCl (vX2_addByte cA v0 v1 v2 bt wz op dp b (bt, wz)) _ := hP
      have hD9 : va_D A (vX2_addByte cA v0 v1 v2 bt wz op dp b (bt, wz)) := hD
      have hq9 : pX2_addByte v0 v1 v2 bt wz op dp b ((-2)) (bt, wz) := (by have e : pbC b dp wz bt op = (-2) := (by unfold pbC; rw [if_neg (fun h => h (by assumption)), if_pos (by omega)]); exact ⟨e.symm, Or.inr ⟨by rw [e]; decide, rfl, rfl⟩⟩)
      exact W.iret (v := (-2)) hx hb hr (fun t ht hW => ⟨⟨(-2), (bt, wz), rfl, hq9, by rw [ht]; exact hP9, va_K.moved hW.alike hK, hD9⟩, hS.F ht⟩) hS.2.2 dX2_addByte_27
    · refine lv_aload_n hx hb dX2_addByte_16 rfl (lv_at hl 0 rfl) ?_
      refine cl_Vi (As := []) (rest := []) (wr := []) ⟨hx, hb, hml, hown, hts⟩ (k_X2_openTag l dC dI cA v0 v1 v2 bt wz op dp _ hbt hwz hdp hop) (cwV 0 hts gX2_addByte_X2_openTag rfl rfl rfl (by decide +kernel) ⟨Nat.le_of_ble_eq_true rfl, Nat.le_of_ble_eq_true rfl⟩) hK hP hD hS hA [0, 1, 2] [] rfl rfl (by decide) (by decide) (by decide) (ci := 1) (q0 := 0) rfl rfl rfl rfl hl.1 rfl (Nat.le_of_ble_eq_true rfl) dX2_addByte_17 ⟨Nat.le_of_ble_eq_true rfl, Nat.le_of_ble_eq_true rfl⟩ (fun r_4 u_4 H locs hw_4 hP hD hS => ?_)
      have hP : va_P (dC, dI) vwCl (wW cA v0 v1 v2 bt wz op dp) H := hP
      have hD : va_D A (wW cA v0 v1 v2 bt wz op dp) := hD
      have hw_4 : (dp = 0 ∧ r_4 = -1) ∨ (0 < dp ∧ r_4 = nI (bt (op (dp - 1)))) := hw_4
      have hw_4 := ((hw_4.resolve_left (fun h => absurd h.1 (by omega))).2).symm
      subst hw_4
      have hv_4 := hbt (op (dp - 1))
      refine lv_bipush (v := nI 48) hx hb dX2_addByte_20 (by decide) ?_
      refine hl_icmp_ne (tgt := 28) hx hb dX2_addByte_22 (by decide) (by omega) (by omega) (fun c_5 => ?_) (fun c_5 => ?_)
      · refine lv_aload_n hx hb dX2_addByte_28 rfl (lv_at hl 0 rfl) ?_
        refine lv_iconst (v := nI 1) hx hb dX2_addByte_29 (by decide) ?_
        refine cl_Vi (As := [.int (nI 1)]) (rest := []) (wr := []) ⟨hx, hb, hml, hown, hts⟩ (k_X2_hasRoom l dC dI cA v0 v1 v2 bt wz op dp 1 _ hwz (by omega)) (cwV 1 hts gX2_addByte_X2_hasRoom rfl rfl rfl (by decide +kernel) ⟨Nat.le_of_ble_eq_true rfl, Nat.le_of_ble_eq_true rfl⟩) hK hP hD hS hA [0, 1, 2] [] rfl rfl (by decide) (by decide) (by decide) (ci := 1) (q0 := 0) rfl rfl rfl rfl hl.1 rfl (Nat.le_of_ble_eq_true rfl) dX2_addByte_30 ⟨Nat.le_of_ble_eq_true rfl, Nat.le_of_ble_eq_true rfl⟩ (fun r_6 u_6 H locs hw_6 hP hD hS => ?_)
        have hP : va_P (dC, dI) vwCl (wW cA v0 v1 v2 bt wz op dp) H := hP
        have hD : va_D A (wW cA v0 v1 v2 bt wz op dp) := hD
        have hw_6 : r_6 = if wz + 1 ≤ 300 then 1 else 0 := hw_6
        have hw_6 := hw_6.symm
        subst hw_6
        refine hl_ifb_ne (tgt := 39) hx hb dX2_addByte_33 (by decide) (fun c_7 => ?_) (fun c_7 => ?_)
        · refine lv_aload_n hx hb dX2_addByte_39 rfl (lv_at hl 0 rfl) ?_
          refine lv_iload_n hx hb dX2_addByte_40 rfl (lv_at hl 1 rfl) ?_
          have hq := ‹isB b›
          have hbl := cl_le hq.1 (by decide) hq.2
          refine hl_top (cl_of hq.1) ?_
          refine cl_Vv (As := [.int (nI b.toNatClampNeg)]) (rest := []) (wr := []) ⟨hx, hb, hml, hown, hts⟩ (k_X2_append l dC dI cA v0 v1 v2 bt wz op dp b.toNatClampNeg _ (by omega)) (cwV 1 hts gX2_addByte_X2_append rfl rfl rfl (by decide +kernel) ⟨Nat.le_of_ble_eq_true rfl, Nat.le_of_ble_eq_true rfl⟩) hK hP hD hS hA [0, 1, 2] [] rfl rfl (by decide) (by decide) (by decide) (ci := 1) (q0 := 0) rfl rfl rfl rfl hl.1 rfl (Nat.le_of_ble_eq_true rfl) dX2_addByte_41 ⟨Nat.le_of_ble_eq_true rfl, Nat.le_of_ble_eq_true rfl⟩ (fun u_8 H locs hw_8 hP hD hS => ?_)
          obtain ⟨bt2_8, wz2_8⟩ := u_8
          have hP : va_P (dC, dI) vwCl (wW cA v0 v1 v2 bt2_8 wz2_8 op dp) H := hP
          have hD : va_D A (wW cA v0 v1 v2 bt2_8 wz2_8 op dp) := hD
          have hw_8 : bt2_8 = va_up bt wz b.toNatClampNeg ∧ wz2_8 = wz + 1 := hw_8
          obtain ⟨e0_8, e1_8⟩ := hw_8
          have e0_8 := e0_8.symm
          subst e0_8
          have e1_8 := e1_8.symm
          subst e1_8
          refine lv_iconst (v := nI 0) hx hb dX2_addByte_44 (by decide) ?_
          have hP9 : va_P (dC, dI) vwCl (vX2_addByte cA v0 v1 v2 bt wz op dp b (va_up bt wz b.toNatClampNeg, wz + 1)) _ := hP
          have hD9 : va_D A (vX2_addByte cA v0 v1 v2 bt wz op dp b (va_up bt wz b.toNatClampNeg, wz + 1)) := hD
          have hq9 : pX2_addByte v0 v1 v2 bt wz op dp b (nI 0) (va_up bt wz b.toNatClampNeg, wz + 1) := (by have e : pbC b dp wz bt op = 0 := (by unfold pbC; rw [if_neg (fun h => h (by assumption)), if_neg (by omega), if_neg (by omega)]); exact ⟨e.symm, Or.inl ⟨e, by assumption, by omega, rfl, rfl⟩⟩)
          exact W.iret (v := nI 0) hx hb hr (fun t ht hW => ⟨⟨nI 0, (va_up bt wz b.toNatClampNeg, wz + 1), rfl, hq9, by rw [ht]; exact hP9, va_K.moved hW.alike hK, hD9⟩, hS.F ht⟩) hS.2.2 dX2_addByte_45
        · refine lv_bipush (v := (-3)) hx hb dX2_addByte_36 (by decide) ?_
          have hP9 : va_P (dC, dI) vwCl (vX2_addByte cA v0 v1 v2 bt wz op dp b (bt, wz)) _ := hP
          have hD9 : va_D A (vX2_addByte cA v0 v1 v2 bt wz op dp b (bt, wz)) := hD
          have hq9 : pX2_addByte v0 v1 v2 bt wz op dp b ((-3)) (bt, wz) := (by have e : pbC b dp wz bt op = (-3) := (by unfold pbC; rw [if_neg (fun h => h (by assumption)), if_neg (by omega), if_pos (by omega)]); exact ⟨e.symm, Or.inr ⟨by rw [e]; decide, rfl, rfl⟩⟩)
          exact W.iret (v := (-3)) hx hb hr (fun t ht hW => ⟨⟨(-3), (bt, wz), rfl, hq9, by rw [ht]; exact hP9, va_K.moved hW.alike hK, hD9⟩, hS.F ht⟩) hS.2.2 dX2_addByte_38
      · refine lv_bipush (v := (-2)) hx hb dX2_addByte_25 (by decide) ?_
        have hP9 : va_P (dC, dI) vwCl (vX2_addByte cA v0 v1 v2 bt wz op dp b (bt, wz)) _ := hP
        have hD9 : va_D A (vX2_addByte cA v0 v1 v2 bt wz op dp b (bt, wz)) := hD
        have hq9 : pX2_addByte v0 v1 v2 bt wz op dp b ((-2)) (bt, wz) := (by have e : pbC b dp wz bt op = (-2) := (by unfold pbC; rw [if_neg (fun h => h (by assumption)), if_pos (by omega)]); exact ⟨e.symm, Or.inr ⟨by rw [e]; decide, rfl, rfl⟩⟩)
        exact W.iret (v := (-2)) hx hb hr (fun t ht hW => ⟨⟨(-2), (bt, wz), rfl, hq9, by rw [ht]; exact hP9, va_K.moved hW.alike hK, hD9⟩, hS.F ht⟩) hS.2.2 dX2_addByte_27
  · refine lv_iconst (v := (-1)) hx hb dX2_addByte_7 (by decide) ?_
    have hP9 : va_P (dC, dI) vwCl (vX2_addByte cA v0 v1 v2 bt wz op dp b (bt, wz)) _ := hP
    have hD9 : va_D A (vX2_addByte cA v0 v1 v2 bt wz op dp b (bt, wz)) := hD
    have hq9 : pX2_addByte v0 v1 v2 bt wz op dp b ((-1)) (bt, wz) := (by have e : pbC b dp wz bt op = (-1) := (by unfold pbC; rw [if_pos (by assumption)]); exact ⟨e.symm, Or.inr ⟨by rw [e]; decide, rfl, rfl⟩⟩)
    exact W.iret (v := (-1)) hx hb hr (fun t ht hW => ⟨⟨(-1), (bt, wz), rfl, hq9, by rw [ht]; exact hP9, va_K.moved hW.alike hK, hD9⟩, hS.F ht⟩) hS.2.2 dX2_addByte_8
abbrev pX2_integerSize (v : Int32) : Int32 → Unit → Prop := fun (r : Int32) (u : Unit) => r = nI (intSz v)
abbrev vX2_integerSize (cA : ClassId) (v : Int32) : Unit → va_W := fun (u : Unit) => []
abbrev qX2_integerSize (dC : Nat → ClassId) (dI : Nat → Nat → Nat) (cA : ClassId) (A : Nat → Prop) (v : Int32) : Array Value → State → Outcome → State → Prop := va_Qi (pX2_integerSize v) (fun u => cAft dC dI cA A (vX2_integerSize cA v u)) A
set_option maxHeartbeats 4000000 in
set_option maxRecDepth 100000 in
theorem k_X2_integerSize (l : Launch) (dC : Nat → ClassId) (dI : Nat → Nat → Nat) (cA : ClassId) (v : Int32) (sz : Nat)  : Met l yX2_integerSize wsX2_integerSize ({ frames := 0, cells := 0, slots := 0, locals := 0 } : Room) (va_Pc [.int v] (cPre dC dI cA ([]) sz)) (qX2_integerSize dC dI cA (va_A ([]) sz) v) 0 0 (va_A ([]) sz) := by
  refine Met.ofW (cc := cX2_integerSize) (maxL := 2) (ret := (some .int)) (by decide) rfl ?_
  intro p e s m args below meth c s₁ B hml hv
  obtain ⟨rfl, hsz, hP, hK, hD0⟩ := hv
  have hx := B.exec
  have hb := B.bytes
  have hr := B.returns
  have hts := atoms_spec (ws := wsX2_integerSize) B.pre
  have hown : s.vm.findClass RX2 = some m.cls := findClass_of_methodNamed B.named
  have hlocks := B.notSynchronized
  subst hsz
  have hD := hD0.self (sz := s.heap.size)
  generalize hAe : va_A ([]) s.heap.size = A at hD ⊢
  have hA : ∀ q : Nat, s.heap.size ≤ q → A q := fun q h => by rw [← hAe]; exact Or.inr h
  have hS : va_S A s.heap s.heap [] := va_S.rf
  have hl := lv_entry ([.int v]) (n := 2) (Nat.le_of_ble_eq_true rfl)
  rw [lg_entry_eq]
  generalize (lg_sl ([.int v]) ++ List.replicate (2 - (lg_sl ([.int v])).length) Slot.unset).toArray = ls at hl ⊢
  have hl : lv_has ls 2 [(0, .int v)] := hl
  have hP : va_P (dC, dI) vwCl ([]) s.heap := hP
  refine lv_iconst (v := nI 1) hx hb dX2_integerSize_0 (by decide) ?_
  refine lv_istore_n (lv' := [(1, .int (nI 1)), (0, .int v)]) hx hb dX2_integerSize_1 rfl hl (by decide) rfl (fun ls hl => ?_)
  refine lv_iload_n hx hb dX2_integerSize_2 rfl (lv_at hl 0 rfl) ?_
  refine lv_iconst (v := nI 4) hx hb dX2_integerSize_3 (by decide) ?_
  refine hl_icmp_ge (tgt := 28) hx hb dX2_integerSize_4 (by decide) (by omega) (by omega) (fun c_1 => absurd c_1 (by decide)) (fun c_1 => ?_)
  refine lv_iload_n hx hb dX2_integerSize_7 rfl (lv_at hl 1 rfl) ?_
  refine lv_bipush (v := nI 8) hx hb dX2_integerSize_8 (by decide) ?_
  refine lv_iload_n hx hb dX2_integerSize_10 rfl (lv_at hl 0 rfl) ?_
  refine lv_imul hx hb dX2_integerSize_11 ?_
  refine hl_top (show _ = nI 8 by decide) ?_
  refine lv_iconst (v := nI 1) hx hb dX2_integerSize_12 (by decide) ?_
  refine lv_isub hx hb dX2_integerSize_13 ?_
  refine hl_top (show _ = nI 7 by decide) ?_
  refine lv_ishr hx hb dX2_integerSize_14 ?_
  refine lv_iload_n hx hb dX2_integerSize_15 rfl (lv_at hl 1 rfl) ?_
  refine lv_bipush (v := nI 31) hx hb dX2_integerSize_16 (by decide) ?_
  refine lv_ishr hx hb dX2_integerSize_18 ?_
  refine lv_icmp_eq (tgt := 28) hx hb dX2_integerSize_19 (by decide) (fun c_2 => ?_) (fun c_2 => ?_)
  · refine lv_iload_n hx hb dX2_integerSize_28 rfl (lv_at hl 0 rfl) ?_
    have hP9 : va_P (dC, dI) vwCl (vX2_integerSize cA v ()) _ := hP
    have hD9 : va_D A (vX2_integerSize cA v ()) := hD
    have hq9 : pX2_integerSize v (nI 1) () := congrArg nI (by unfold intSz; simp only [*, if_true, if_false])
    exact W.iret (v := nI 1) hx hb hr (fun t ht hW => ⟨⟨nI 1, (), rfl, hq9, by rw [ht]; exact hP9, va_K.moved hW.alike hK, hD9⟩, hS.F ht⟩) hS.2.2 dX2_integerSize_29
  · refine lv_iinc (v := (nI 2)) (lv' := [(1, .int (nI 2)), (0, .int v)]) hx hb dX2_integerSize_22 hl (k := 0) rfl (by decide) (by decide) rfl (fun ls hl => ?_)
    refine lv_goto (tgt := 2) hx hb dX2_integerSize_25 (by decide) ?_
    refine lv_iload_n hx hb dX2_integerSize_2 rfl (lv_at hl 0 rfl) ?_
    refine lv_iconst (v := nI 4) hx hb dX2_integerSize_3 (by decide) ?_
    refine hl_icmp_ge (tgt := 28) hx hb dX2_integerSize_4 (by decide) (by omega) (by omega) (fun c_3 => absurd c_3 (by decide)) (fun c_3 => ?_)
    refine lv_iload_n hx hb dX2_integerSize_7 rfl (lv_at hl 1 rfl) ?_
    refine lv_bipush (v := nI 8) hx hb dX2_integerSize_8 (by decide) ?_
    refine lv_iload_n hx hb dX2_integerSize_10 rfl (lv_at hl 0 rfl) ?_
    refine lv_imul hx hb dX2_integerSize_11 ?_
    refine hl_top (show _ = nI 16 by decide) ?_
    refine lv_iconst (v := nI 1) hx hb dX2_integerSize_12 (by decide) ?_
    refine lv_isub hx hb dX2_integerSize_13 ?_
    refine hl_top (show _ = nI 15 by decide) ?_
    refine lv_ishr hx hb dX2_integerSize_14 ?_
    refine lv_iload_n hx hb dX2_integerSize_15 rfl (lv_at hl 1 rfl) ?_
    refine lv_bipush (v := nI 31) hx hb dX2_integerSize_16 (by decide) ?_
    refine lv_ishr hx hb dX2_integerSize_18 ?_
    refine lv_icmp_eq (tgt := 28) hx hb dX2_integerSize_19 (by decide) (fun c_4 => ?_) (fun c_4 => ?_)
    · refine lv_iload_n hx hb dX2_integerSize_28 rfl (lv_at hl 0 rfl) ?_
      have hP9 : va_P (dC, dI) vwCl (vX2_integerSize cA v ()) _ := hP
      have hD9 : va_D A (vX2_integerSize cA v ()) := hD
      have hq9 : pX2_integerSize v (nI 2) () := congrArg nI (by unfold intSz; simp only [*, if_true, if_false])
      exact W.iret (v := nI 2) hx hb hr (fun t ht hW => ⟨⟨nI 2, (), rfl, hq9, by rw [ht]; exact hP9, va_K.moved hW.alike hK, hD9⟩, hS.F ht⟩) hS.2.2 dX2_integerSize_29
    · refine lv_iinc (v := (nI 3)) (lv' := [(1, .int (nI 3)), (0, .int v)]) hx hb dX2_integerSize_22 hl (k := 0) rfl (by decide) (by decide) rfl (fun ls hl => ?_)
      refine lv_goto (tgt := 2) hx hb dX2_integerSize_25 (by decide) ?_
      refine lv_iload_n hx hb dX2_integerSize_2 rfl (lv_at hl 0 rfl) ?_
      refine lv_iconst (v := nI 4) hx hb dX2_integerSize_3 (by decide) ?_
      refine hl_icmp_ge (tgt := 28) hx hb dX2_integerSize_4 (by decide) (by omega) (by omega) (fun c_5 => absurd c_5 (by decide)) (fun c_5 => ?_)
      refine lv_iload_n hx hb dX2_integerSize_7 rfl (lv_at hl 1 rfl) ?_
      refine lv_bipush (v := nI 8) hx hb dX2_integerSize_8 (by decide) ?_
      refine lv_iload_n hx hb dX2_integerSize_10 rfl (lv_at hl 0 rfl) ?_
      refine lv_imul hx hb dX2_integerSize_11 ?_
      refine hl_top (show _ = nI 24 by decide) ?_
      refine lv_iconst (v := nI 1) hx hb dX2_integerSize_12 (by decide) ?_
      refine lv_isub hx hb dX2_integerSize_13 ?_
      refine hl_top (show _ = nI 23 by decide) ?_
      refine lv_ishr hx hb dX2_integerSize_14 ?_
      refine lv_iload_n hx hb dX2_integerSize_15 rfl (lv_at hl 1 rfl) ?_
      refine lv_bipush (v := nI 31) hx hb dX2_integerSize_16 (by decide) ?_
      refine lv_ishr hx hb dX2_integerSize_18 ?_
      refine lv_icmp_eq (tgt := 28) hx hb dX2_integerSize_19 (by decide) (fun c_6 => ?_) (fun c_6 => ?_)
      · refine lv_iload_n hx hb dX2_integerSize_28 rfl (lv_at hl 0 rfl) ?_
        have hP9 : va_P (dC, dI) vwCl (vX2_integerSize cA v ()) _ := hP
        have hD9 : va_D A (vX2_integerSize cA v ()) := hD
        have hq9 : pX2_integerSize v (nI 3) () := congrArg nI (by unfold intSz; simp only [*, if_true, if_false])
        exact W.iret (v := nI 3) hx hb hr (fun t ht hW => ⟨⟨nI 3, (), rfl, hq9, by rw [ht]; exact hP9, va_K.moved hW.alike hK, hD9⟩, hS.F ht⟩) hS.2.2 dX2_integerSize_29
      · refine lv_iinc (v := (nI 4)) (lv' := [(1, .int (nI 4)), (0, .int v)]) hx hb dX2_integerSize_22 hl (k := 0) rfl (by decide) (by decide) rfl (fun ls hl => ?_)
        refine lv_goto (tgt := 2) hx hb dX2_integerSize_25 (by decide) ?_
        refine lv_iload_n hx hb dX2_integerSize_2 rfl (lv_at hl 0 rfl) ?_
        refine lv_iconst (v := nI 4) hx hb dX2_integerSize_3 (by decide) ?_
        refine hl_icmp_ge (tgt := 28) hx hb dX2_integerSize_4 (by decide) (by omega) (by omega) (fun c_7 => ?_) (fun c_7 => absurd c_7 (by decide))
        refine lv_iload_n hx hb dX2_integerSize_28 rfl (lv_at hl 0 rfl) ?_
        have hP9 : va_P (dC, dI) vwCl (vX2_integerSize cA v ()) _ := hP
        have hD9 : va_D A (vX2_integerSize cA v ()) := hD
        have hq9 : pX2_integerSize v (nI 4) () := congrArg nI (by unfold intSz; simp only [*, if_true, if_false])
        exact W.iret (v := nI 4) hx hb hr (fun t ht hW => ⟨⟨nI 4, (), rfl, hq9, by rw [ht]; exact hP9, va_K.moved hW.alike hK, hD9⟩, hS.F ht⟩) hS.2.2 dX2_integerSize_29
abbrev pX2_partSize (v : Int32) : Int32 → Unit → Prop := fun (r : Int32) (u : Unit) => r = nI (partSz v)
abbrev vX2_partSize (cA : ClassId) (v : Int32) : Unit → va_W := fun (u : Unit) => []
abbrev qX2_partSize (dC : Nat → ClassId) (dI : Nat → Nat → Nat) (cA : ClassId) (A : Nat → Prop) (v : Int32) : Array Value → State → Outcome → State → Prop := va_Qi (pX2_partSize v) (fun u => cAft dC dI cA A (vX2_partSize cA v u)) A
set_option maxHeartbeats 4000000 in
set_option maxRecDepth 100000 in
theorem k_X2_partSize (l : Launch) (dC : Nat → ClassId) (dI : Nat → Nat → Nat) (cA : ClassId) (v : Int32) (sz : Nat)  : Met l yX2_partSize wsX2_partSize ({ frames := 0, cells := 0, slots := 0, locals := 0 } : Room) (va_Pc [.int v] (cPre dC dI cA ([]) sz)) (qX2_partSize dC dI cA (va_A ([]) sz) v) 0 0 (va_A ([]) sz) := by
  refine Met.ofW (cc := cX2_partSize) (maxL := 2) (ret := (some .int)) (by decide) rfl ?_
  intro p e s m args below meth c s₁ B hml hv
  obtain ⟨rfl, hsz, hP, hK, hD0⟩ := hv
  have hx := B.exec
  have hb := B.bytes
  have hr := B.returns
  have hts := atoms_spec (ws := wsX2_partSize) B.pre
  have hown : s.vm.findClass RX2 = some m.cls := findClass_of_methodNamed B.named
  have hlocks := B.notSynchronized
  subst hsz
  have hD := hD0.self (sz := s.heap.size)
  generalize hAe : va_A ([]) s.heap.size = A at hD ⊢
  have hA : ∀ q : Nat, s.heap.size ≤ q → A q := fun q h => by rw [← hAe]; exact Or.inr h
  have hS : va_S A s.heap s.heap [] := va_S.rf
  have hl := lv_entry ([.int v]) (n := 2) (Nat.le_of_ble_eq_true rfl)
  rw [lg_entry_eq]
  generalize (lg_sl ([.int v]) ++ List.replicate (2 - (lg_sl ([.int v])).length) Slot.unset).toArray = ls at hl ⊢
  have hl : lv_has ls 2 [(0, .int v)] := hl
  have hP : va_P (dC, dI) vwCl ([]) s.heap := hP
  refine lv_iconst (v := nI 1) hx hb dX2_partSize_0 (by decide) ?_
  refine lv_istore_n (lv' := [(1, .int (nI 1)), (0, .int v)]) hx hb dX2_partSize_1 rfl hl (by decide) rfl (fun ls hl => ?_)
  refine lv_iload_n hx hb dX2_partSize_2 rfl (lv_at hl 0 rfl) ?_
  refine lv_iconst (v := nI 5) hx hb dX2_partSize_3 (by decide) ?_
  refine hl_icmp_ge (tgt := 22) hx hb dX2_partSize_4 (by decide) (by omega) (by omega) (fun c_1 => absurd c_1 (by decide)) (fun c_1 => ?_)
  refine lv_iload_n hx hb dX2_partSize_7 rfl (lv_at hl 1 rfl) ?_
  refine lv_bipush (v := nI 7) hx hb dX2_partSize_8 (by decide) ?_
  refine lv_iload_n hx hb dX2_partSize_10 rfl (lv_at hl 0 rfl) ?_
  refine lv_imul hx hb dX2_partSize_11 ?_
  refine hl_top (show _ = nI 7 by decide) ?_
  refine lv_ishr hx hb dX2_partSize_12 ?_
  refine lv_if_eq (tgt := 22) hx hb dX2_partSize_13 (by decide) (fun c_2 => ?_) (fun c_2 => ?_)
  · refine lv_iload_n hx hb dX2_partSize_22 rfl (lv_at hl 0 rfl) ?_
    have hP9 : va_P (dC, dI) vwCl (vX2_partSize cA v ()) _ := hP
    have hD9 : va_D A (vX2_partSize cA v ()) := hD
    have hq9 : pX2_partSize v (nI 1) () := congrArg nI (by unfold partSz; simp only [*, if_true, if_false])
    exact W.iret (v := nI 1) hx hb hr (fun t ht hW => ⟨⟨nI 1, (), rfl, hq9, by rw [ht]; exact hP9, va_K.moved hW.alike hK, hD9⟩, hS.F ht⟩) hS.2.2 dX2_partSize_23
  · refine lv_iinc (v := (nI 2)) (lv' := [(1, .int (nI 2)), (0, .int v)]) hx hb dX2_partSize_16 hl (k := 0) rfl (by decide) (by decide) rfl (fun ls hl => ?_)
    refine lv_goto (tgt := 2) hx hb dX2_partSize_19 (by decide) ?_
    refine lv_iload_n hx hb dX2_partSize_2 rfl (lv_at hl 0 rfl) ?_
    refine lv_iconst (v := nI 5) hx hb dX2_partSize_3 (by decide) ?_
    refine hl_icmp_ge (tgt := 22) hx hb dX2_partSize_4 (by decide) (by omega) (by omega) (fun c_3 => absurd c_3 (by decide)) (fun c_3 => ?_)
    refine lv_iload_n hx hb dX2_partSize_7 rfl (lv_at hl 1 rfl) ?_
    refine lv_bipush (v := nI 7) hx hb dX2_partSize_8 (by decide) ?_
    refine lv_iload_n hx hb dX2_partSize_10 rfl (lv_at hl 0 rfl) ?_
    refine lv_imul hx hb dX2_partSize_11 ?_
    refine hl_top (show _ = nI 14 by decide) ?_
    refine lv_ishr hx hb dX2_partSize_12 ?_
    refine lv_if_eq (tgt := 22) hx hb dX2_partSize_13 (by decide) (fun c_4 => ?_) (fun c_4 => ?_)
    · refine lv_iload_n hx hb dX2_partSize_22 rfl (lv_at hl 0 rfl) ?_
      have hP9 : va_P (dC, dI) vwCl (vX2_partSize cA v ()) _ := hP
      have hD9 : va_D A (vX2_partSize cA v ()) := hD
      have hq9 : pX2_partSize v (nI 2) () := congrArg nI (by unfold partSz; simp only [*, if_true, if_false])
      exact W.iret (v := nI 2) hx hb hr (fun t ht hW => ⟨⟨nI 2, (), rfl, hq9, by rw [ht]; exact hP9, va_K.moved hW.alike hK, hD9⟩, hS.F ht⟩) hS.2.2 dX2_partSize_23
    · refine lv_iinc (v := (nI 3)) (lv' := [(1, .int (nI 3)), (0, .int v)]) hx hb dX2_partSize_16 hl (k := 0) rfl (by decide) (by decide) rfl (fun ls hl => ?_)
      refine lv_goto (tgt := 2) hx hb dX2_partSize_19 (by decide) ?_
      refine lv_iload_n hx hb dX2_partSize_2 rfl (lv_at hl 0 rfl) ?_
      refine lv_iconst (v := nI 5) hx hb dX2_partSize_3 (by decide) ?_
      refine hl_icmp_ge (tgt := 22) hx hb dX2_partSize_4 (by decide) (by omega) (by omega) (fun c_5 => absurd c_5 (by decide)) (fun c_5 => ?_)
      refine lv_iload_n hx hb dX2_partSize_7 rfl (lv_at hl 1 rfl) ?_
      refine lv_bipush (v := nI 7) hx hb dX2_partSize_8 (by decide) ?_
      refine lv_iload_n hx hb dX2_partSize_10 rfl (lv_at hl 0 rfl) ?_
      refine lv_imul hx hb dX2_partSize_11 ?_
      refine hl_top (show _ = nI 21 by decide) ?_
      refine lv_ishr hx hb dX2_partSize_12 ?_
      refine lv_if_eq (tgt := 22) hx hb dX2_partSize_13 (by decide) (fun c_6 => ?_) (fun c_6 => ?_)
      · refine lv_iload_n hx hb dX2_partSize_22 rfl (lv_at hl 0 rfl) ?_
        have hP9 : va_P (dC, dI) vwCl (vX2_partSize cA v ()) _ := hP
        have hD9 : va_D A (vX2_partSize cA v ()) := hD
        have hq9 : pX2_partSize v (nI 3) () := congrArg nI (by unfold partSz; simp only [*, if_true, if_false])
        exact W.iret (v := nI 3) hx hb hr (fun t ht hW => ⟨⟨nI 3, (), rfl, hq9, by rw [ht]; exact hP9, va_K.moved hW.alike hK, hD9⟩, hS.F ht⟩) hS.2.2 dX2_partSize_23
      · refine lv_iinc (v := (nI 4)) (lv' := [(1, .int (nI 4)), (0, .int v)]) hx hb dX2_partSize_16 hl (k := 0) rfl (by decide) (by decide) rfl (fun ls hl => ?_)
        refine lv_goto (tgt := 2) hx hb dX2_partSize_19 (by decide) ?_
        refine lv_iload_n hx hb dX2_partSize_2 rfl (lv_at hl 0 rfl) ?_
        refine lv_iconst (v := nI 5) hx hb dX2_partSize_3 (by decide) ?_
        refine hl_icmp_ge (tgt := 22) hx hb dX2_partSize_4 (by decide) (by omega) (by omega) (fun c_7 => absurd c_7 (by decide)) (fun c_7 => ?_)
        refine lv_iload_n hx hb dX2_partSize_7 rfl (lv_at hl 1 rfl) ?_
        refine lv_bipush (v := nI 7) hx hb dX2_partSize_8 (by decide) ?_
        refine lv_iload_n hx hb dX2_partSize_10 rfl (lv_at hl 0 rfl) ?_
        refine lv_imul hx hb dX2_partSize_11 ?_
        refine hl_top (show _ = nI 28 by decide) ?_
        refine lv_ishr hx hb dX2_partSize_12 ?_
        refine lv_if_eq (tgt := 22) hx hb dX2_partSize_13 (by decide) (fun c_8 => ?_) (fun c_8 => ?_)
        · refine lv_iload_n hx hb dX2_partSize_22 rfl (lv_at hl 0 rfl) ?_
          have hP9 : va_P (dC, dI) vwCl (vX2_partSize cA v ()) _ := hP
          have hD9 : va_D A (vX2_partSize cA v ()) := hD
          have hq9 : pX2_partSize v (nI 4) () := congrArg nI (by unfold partSz; simp only [*, if_true, if_false])
          exact W.iret (v := nI 4) hx hb hr (fun t ht hW => ⟨⟨nI 4, (), rfl, hq9, by rw [ht]; exact hP9, va_K.moved hW.alike hK, hD9⟩, hS.F ht⟩) hS.2.2 dX2_partSize_23
        · refine lv_iinc (v := (nI 5)) (lv' := [(1, .int (nI 5)), (0, .int v)]) hx hb dX2_partSize_16 hl (k := 0) rfl (by decide) (by decide) rfl (fun ls hl => ?_)
          refine lv_goto (tgt := 2) hx hb dX2_partSize_19 (by decide) ?_
          refine lv_iload_n hx hb dX2_partSize_2 rfl (lv_at hl 0 rfl) ?_
          refine lv_iconst (v := nI 5) hx hb dX2_partSize_3 (by decide) ?_
          refine hl_icmp_ge (tgt := 22) hx hb dX2_partSize_4 (by decide) (by omega) (by omega) (fun c_9 => ?_) (fun c_9 => absurd c_9 (by decide))
          refine lv_iload_n hx hb dX2_partSize_22 rfl (lv_at hl 0 rfl) ?_
          have hP9 : va_P (dC, dI) vwCl (vX2_partSize cA v ()) _ := hP
          have hD9 : va_D A (vX2_partSize cA v ()) := hD
          have hq9 : pX2_partSize v (nI 5) () := congrArg nI (by unfold partSz; simp only [*, if_true, if_false])
          exact W.iret (v := nI 5) hx hb hr (fun t ht hW => ⟨⟨nI 5, (), rfl, hq9, by rw [ht]; exact hP9, va_K.moved hW.alike hK, hD9⟩, hS.F ht⟩) hS.2.2 dX2_partSize_23
abbrev pX2_byteAt (v0 : Nat) (v1 : Nat) (v2 : Nat) (bt : Nat → Nat) (wz : Nat) (op : Nat → Nat) (dp : Nat) (i : Int32) : Int32 → Unit → Prop := fun (r : Int32) (u : Unit) => r = if isNd wz i then nI (bt i.toNatClampNeg) else -1
abbrev vX2_byteAt (cA : ClassId) (v0 : Nat) (v1 : Nat) (v2 : Nat) (bt : Nat → Nat) (wz : Nat) (op : Nat → Nat) (dp : Nat) (i : Int32) : Unit → va_W := fun (u : Unit) => wW cA v0 v1 v2 bt wz op dp
abbrev qX2_byteAt (dC : Nat → ClassId) (dI : Nat → Nat → Nat) (cA : ClassId) (A : Nat → Prop) (v0 : Nat) (v1 : Nat) (v2 : Nat) (bt : Nat → Nat) (wz : Nat) (op : Nat → Nat) (dp : Nat) (i : Int32) : Array Value → State → Outcome → State → Prop := va_Qi (pX2_byteAt v0 v1 v2 bt wz op dp i) (fun u => cAft dC dI cA A (vX2_byteAt cA v0 v1 v2 bt wz op dp i u)) A
set_option maxHeartbeats 4000000 in
set_option maxRecDepth 100000 in
theorem k_X2_byteAt (l : Launch) (dC : Nat → ClassId) (dI : Nat → Nat → Nat) (cA : ClassId) (v0 : Nat) (v1 : Nat) (v2 : Nat) (bt : Nat → Nat) (wz : Nat) (op : Nat → Nat) (dp : Nat) (i : Int32) (sz : Nat) (hwz : wz ≤ 300) : Met l yX2_byteAt wsX2_byteAt ({ frames := 0, cells := 0, slots := 0, locals := 0 } : Room) (va_Pc [.ref v0, .int i] (cPre dC dI cA (wW cA v0 v1 v2 bt wz op dp) sz)) (qX2_byteAt dC dI cA (va_A (wW cA v0 v1 v2 bt wz op dp) sz) v0 v1 v2 bt wz op dp i) 0 0 (va_A (wW cA v0 v1 v2 bt wz op dp) sz) := by
  refine Met.ofW (cc := cX2_byteAt) (maxL := 2) (ret := (some .int)) (by decide) rfl ?_
  intro p e s m args below meth c s₁ B hml hv
  obtain ⟨rfl, hsz, hP, hK, hD0⟩ := hv
  have hx := B.exec
  have hb := B.bytes
  have hr := B.returns
  have hts := atoms_spec (ws := wsX2_byteAt) B.pre
  have hown : s.vm.findClass RX2 = some m.cls := findClass_of_methodNamed B.named
  have hlocks := B.notSynchronized
  subst hsz
  have hD := hD0.self (sz := s.heap.size)
  generalize hAe : va_A (wW cA v0 v1 v2 bt wz op dp) s.heap.size = A at hD ⊢
  have hA : ∀ q : Nat, s.heap.size ≤ q → A q := fun q h => by rw [← hAe]; exact Or.inr h
  have hS : va_S A s.heap s.heap [] := va_S.rf
  have hl := lv_entry ([.ref v0, .int i]) (n := 2) (Nat.le_of_ble_eq_true rfl)
  rw [lg_entry_eq]
  generalize (lg_sl ([.ref v0, .int i]) ++ List.replicate (2 - (lg_sl ([.ref v0, .int i])).length) Slot.unset).toArray = ls at hl ⊢
  have hl : lv_has ls 2 [(0, .ref v0), (1, .int i)] := hl
  have hinX2 : ∀ w ∈ wsX20, w ∈ wsX2_byteAt := fun _ h => List.mem_cons_of_mem _ (List.mem_append_right _ h)
  have hf_9 := hts (.fieldLink RX2 9 "DerDesk$Writer" "bytes" "[I") (by decide +kernel)
  have hf_15 := hts (.fieldLink RX2 15 "DerDesk$Writer" "size" "I") (by decide +kernel)
  have hP : va_P (dC, dI) vwCl (wW cA v0 v1 v2 bt wz op dp) s.heap := hP
  refine lv_iload_n hx hb dX2_byteAt_0 rfl (lv_at hl 1 rfl) ?_
  refine lv_if_lt (tgt := 21) hx hb dX2_byteAt_1 (by decide) (fun c_1 => ?_) (fun c_1 => ?_)
  · refine lv_iconst (v := (-1)) hx hb dX2_byteAt_21 (by decide) ?_
    have hP9 : va_P (dC, dI) vwCl (vX2_byteAt cA v0 v1 v2 bt wz op dp i ()) _ := hP
    have hD9 : va_D A (vX2_byteAt cA v0 v1 v2 bt wz op dp i ()) := hD
    have hq9 : pX2_byteAt v0 v1 v2 bt wz op dp i ((-1)) () := (if_neg (fun h => by first | exact absurd (by assumption) h.1 | exact absurd h.2 (Int32.not_lt.mpr (by assumption)))).symm
    exact W.iret (v := (-1)) hx hb hr (fun t ht hW => ⟨⟨(-1), (), rfl, hq9, by rw [ht]; exact hP9, va_K.moved hW.alike hK, hD9⟩, hS.F ht⟩) hS.2.2 dX2_byteAt_22
  · refine lv_iload_n hx hb dX2_byteAt_4 rfl (lv_at hl 1 rfl) ?_
    refine lv_aload_n hx hb dX2_byteAt_5 rfl (lv_at hl 0 rfl) ?_
    refine va_get (D := (dC, dI)) (ci := 1) (v := .int (nI wz)) (C := RX2) (T := TX2) (N := 4) hx hb hts hinX2 hown hK hP 0 rfl rfl 1 (by decide) hf_15 (fun _ h9 => h9) rfl dX2_byteAt_6 ?_
    refine lv_icmp_ge (tgt := 21) hx hb dX2_byteAt_9 (by decide) (fun c_2 => ?_) (fun c_2 => ?_)
    · refine lv_iconst (v := (-1)) hx hb dX2_byteAt_21 (by decide) ?_
      have hP9 : va_P (dC, dI) vwCl (vX2_byteAt cA v0 v1 v2 bt wz op dp i ()) _ := hP
      have hD9 : va_D A (vX2_byteAt cA v0 v1 v2 bt wz op dp i ()) := hD
      have hq9 : pX2_byteAt v0 v1 v2 bt wz op dp i ((-1)) () := (if_neg (fun h => by first | exact absurd (by assumption) h.1 | exact absurd h.2 (Int32.not_lt.mpr (by assumption)))).symm
      exact W.iret (v := (-1)) hx hb hr (fun t ht hW => ⟨⟨(-1), (), rfl, hq9, by rw [ht]; exact hP9, va_K.moved hW.alike hK, hD9⟩, hS.F ht⟩) hS.2.2 dX2_byteAt_22
    · refine lv_aload_n hx hb dX2_byteAt_12 rfl (lv_at hl 0 rfl) ?_
      refine va_get (D := (dC, dI)) (ci := 1) (v := .ref v1) (C := RX2) (T := TX2) (N := 4) hx hb hts hinX2 hown hK hP 0 rfl rfl 0 (by decide) hf_9 (fun _ h9 => h9) rfl dX2_byteAt_13 ?_
      refine lv_iload_n hx hb dX2_byteAt_16 rfl (lv_at hl 1 rfl) ?_
      have hlt : i < nI wz := Int32.not_le.mp (by assumption)
      have hnl := cl_lt (by assumption) (by omega) hlt
      refine hl_top (cl_of (by assumption)) ?_
      refine hl_iald hx hb hK hP 1 0 rfl rfl (by omega) (by decide) dX2_byteAt_17 ?_
      refine lv_goto (tgt := 22) hx hb dX2_byteAt_18 (by decide) ?_
      have hP9 : va_P (dC, dI) vwCl (vX2_byteAt cA v0 v1 v2 bt wz op dp i ()) _ := hP
      have hD9 : va_D A (vX2_byteAt cA v0 v1 v2 bt wz op dp i ()) := hD
      have hq9 : pX2_byteAt v0 v1 v2 bt wz op dp i (nI (bt i.toNatClampNeg)) () := (if_pos ⟨by assumption, hlt⟩).symm
      exact W.iret (v := nI (bt i.toNatClampNeg)) hx hb hr (fun t ht hW => ⟨⟨nI (bt i.toNatClampNeg), (), rfl, hq9, by rw [ht]; exact hP9, va_K.moved hW.alike hK, hD9⟩, hS.F ht⟩) hS.2.2 dX2_byteAt_22
