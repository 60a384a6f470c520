abbrev vX2_init (cA : ClassId) (v0 : Nat) : Nat × Nat → va_W := fun u => match u with | (v1, v2) => wW cA v0 v1 v2 (fun _ => 0) 0 (fun _ => 0) 0
set_option maxHeartbeats 4000000 in
set_option maxRecDepth 100000 in
theorem k_X2_init (l : Launch) (dC : Nat → ClassId) (dI : Nat → Nat → Nat) (cA : ClassId) (v0 : Nat) (sz : Nat) : Met l yX2_init wsX2_init ({ frames := 1, cells := 2, slots := 316, locals := 12 } : Room) (va_Pc [.ref v0] (cPre dC dI cA ([(v0, .inr (1, [.null, .int 0, .null, .int 0]))]) sz)) (va_Qv (fun _ => True : Nat × Nat → Prop) (fun u => cAft dC dI cA (va_A ([(v0, .inr (1, [.null, .int 0, .null, .int 0]))]) sz) (vX2_init cA v0 u)) (va_A ([(v0, .inr (1, [.null, .int 0, .null, .int 0]))]) sz)) 2 316 (va_A ([(v0, .inr (1, [.null, .int 0, .null, .int 0]))]) sz) := by
  refine Met.ofW (cc := cX2_init) (maxL := 1) (ret := none) (by decide) rfl ?_
  intro p e s m args below meth c s₁ B hml hv
  obtain ⟨rfl, hsz, hP, hK, hD0⟩ := hv
  have hx := B.exec
  have hb := B.bytes
  have hr := B.returns
  have hts := atoms_spec (ws := wsX2_init) B.pre
  have hown : s.vm.findClass RX2 = some m.cls := findClass_of_methodNamed B.named
  have hlocks := B.notSynchronized
  have hin : meth.name = "<init>" := (name_of_methodNamed B.named B.method).1
  subst hsz
  have hD := hD0.self (sz := s.heap.size)
  generalize hAe : va_A ([(v0, .inr (1, [.null, .int 0, .null, .int 0]))]) s.heap.size = A at hD ⊢
  have hA : ∀ q : Nat, s.heap.size ≤ q → A q := fun q h => by rw [← hAe]; exact Or.inr h
  have hS : va_S A s.heap s.heap [] := va_S.rf
  have hl := lv_entry ([.ref v0]) (n := 1) (Nat.le_of_ble_eq_true rfl)
  rw [lg_entry_eq]
  generalize (lg_sl ([.ref v0]) ++ List.replicate (1 - (lg_sl ([.ref v0])).length) Slot.unset).toArray = ls at hl ⊢
  have hl : lv_has ls 1 [(0, .ref v0)] := hl
  have hinX2 : ∀ w ∈ wsX20, w ∈ wsX2_init := fun _ h => List.mem_cons_of_mem _ (List.mem_append_right _ h)
  have hP : va_P (dC, dI) vwCl ([(v0, .inr (1, [.null, .int 0, .null, .int 0]))]) s.heap := hP
  have hf_9 := hts (.fieldLink RX2 9 "DerDesk$Writer" "bytes" "[I") (by decide +kernel)
  have hf_15 := hts (.fieldLink RX2 15 "DerDesk$Writer" "size" "I") (by decide +kernel)
  have hf_19 := hts (.fieldLink RX2 19 "DerDesk$Writer" "opened" "[I") (by decide +kernel)
  have hf_22 := hts (.fieldLink RX2 22 "DerDesk$Writer" "depth" "I") (by decide +kernel)
  refine lv_aload_n hx hb dX2_init_0 rfl (lv_at hl 0 rfl) ?_
  refine W.objInit hx hb hown (hts (.methodLink RX2 3 objectInit) (by decide +kernel)) (hts (.instanceMethod objectInit) (by decide +kernel)) (hts (.code objectInit ⟨#[0xb1]⟩ 1 none) (by decide +kernel)) rfl (by rw [hml]; exact hl.1) rfl dX2_init_1 (Nat.le_of_ble_eq_true rfl) (Nat.le_of_ble_eq_true rfl) ?_
  refine W.eq (g2 := F0 m 4 ls []) rfl ?_
  refine lv_aload_n hx hb dX2_init_4 rfl (lv_at hl 0 rfl) ?_
  refine lv_sipush (v := nI 300) hx hb dX2_init_5 (by decide) ?_
  refine va_newa (atype := .int) (ty := .int) hx hb (hts (.arrayClass .int) (by decide +kernel)) rfl hK hP hD hS hA (n := nI 300) (N' := 300) (a0 := (300, .inl (nA (fun _ => 0)))) (fun cB => z_cell cB 300) (by decide) (nI_clamp (by decide)) (Nat.le_of_ble_eq_true rfl) (Nat.le_of_ble_eq_true rfl) (Nat.le_of_ble_eq_true rfl) dX2_init_8 (fun v1 cB H hK hP hD hS => ?_)
  have hcB := one_cA hK
  subst hcB
  have hK : va_K (dC, dI) vwCl [(cA, .int)] s := hK.sub [0] rfl
  have hP : va_P (dC, dI) vwCl ([(v0, .inr (1, [.null, .int 0, .null, .int 0])), (v1, .inl (cA, 300, .inl (nA (fun _ => 0))))]) H := hP
  have hD : va_D A ([(v0, .inr (1, [.null, .int 0, .null, .int 0])), (v1, .inl (cA, 300, .inl (nA (fun _ => 0))))]) := hD
  refine W.widen (k := 1) (n := 300) (Nat.le_of_ble_eq_true rfl) (Nat.le_of_ble_eq_true rfl) ?_
  refine va_putF (D := (dC, dI)) (ci := 1) (v := .ref v1) (ty := .array .int) (C := RX2) (T := TX2) (N := 4) hx hb hts hinX2 tyX2 tyX2_ok nmX2 hown hK hP hD hS 0 rfl rfl 0 (by decide) hf_9 (fun _ h9 => h9) rfl hin rfl (by decide +kernel) rfl rfl (Nat.le_of_ble_eq_true rfl) dX2_init_10 (fun H locs hP hD hS => ?_)
  have hP : va_P (dC, dI) vwCl ([(v0, .inr (1, [.ref v1, .int 0, .null, .int 0])), (v1, .inl (cA, 300, .inl (nA (fun _ => 0))))]) H := hP
  have hD : va_D A ([(v0, .inr (1, [.ref v1, .int 0, .null, .int 0])), (v1, .inl (cA, 300, .inl (nA (fun _ => 0))))]) := hD
  refine lv_aload_n hx hb dX2_init_13 rfl (lv_at hl 0 rfl) ?_
  refine lv_iconst (v := nI 0) hx hb dX2_init_14 (by decide) ?_
  refine va_put (D := (dC, dI)) (ci := 1) (v := .int (nI 0)) (ty := .int) (C := RX2) (T := TX2) (N := 4) hx hb hts hinX2 tyX2 tyX2_ok nmX2 hown hK hP hD hS 0 rfl rfl 1 (by decide) hf_15 (fun _ h9 => h9) rfl (by decide +kernel) rfl rfl (Nat.le_of_ble_eq_true rfl) dX2_init_15 (fun H locs hP hD hS => ?_)
  have hP : va_P (dC, dI) vwCl ([(v0, .inr (1, [.ref v1, .int (nI 0), .null, .int 0])), (v1, .inl (cA, 300, .inl (nA (fun _ => 0))))]) H := hP
  have hD : va_D A ([(v0, .inr (1, [.ref v1, .int (nI 0), .null, .int 0])), (v1, .inl (cA, 300, .inl (nA (fun _ => 0))))]) := hD
  refine lv_aload_n hx hb dX2_init_18 rfl (lv_at hl 0 rfl) ?_
  refine lv_bipush (v := nI 16) hx hb dX2_init_19 (by decide) ?_
  refine va_newa (atype := .int) (ty := .int) hx hb (hts (.arrayClass .int) (by decide +kernel)) rfl hK hP hD hS hA (n := nI 16) (N' := 16) (a0 := (16, .inl (nA (fun _ => 0)))) (fun cB => z_cell cB 16) (by decide) (nI_clamp (by decide)) (Nat.le_of_ble_eq_true rfl) (Nat.le_of_ble_eq_true rfl) (Nat.le_of_ble_eq_true rfl) dX2_init_21 (fun v2 cB H hK hP hD hS => ?_)
  have hcB := one_cA hK
  subst hcB
  have hK : va_K (dC, dI) vwCl [(cA, .int)] s := hK.sub [0] rfl
  have hP : va_P (dC, dI) vwCl ([(v0, .inr (1, [.ref v1, .int (nI 0), .null, .int 0])), (v1, .inl (cA, 300, .inl (nA (fun _ => 0)))), (v2, .inl (cA, 16, .inl (nA (fun _ => 0))))]) H := hP
  have hD : va_D A ([(v0, .inr (1, [.ref v1, .int (nI 0), .null, .int 0])), (v1, .inl (cA, 300, .inl (nA (fun _ => 0)))), (v2, .inl (cA, 16, .inl (nA (fun _ => 0))))]) := hD
  refine W.widen (k := 2) (n := 316) (Nat.le_of_ble_eq_true rfl) (Nat.le_of_ble_eq_true rfl) ?_
  refine va_putF (D := (dC, dI)) (ci := 1) (v := .ref v2) (ty := .array .int) (C := RX2) (T := TX2) (N := 4) hx hb hts hinX2 tyX2 tyX2_ok nmX2 hown hK hP hD hS 0 rfl rfl 2 (by decide) hf_19 (fun _ h9 => h9) rfl hin rfl (by decide +kernel) rfl rfl (Nat.le_of_ble_eq_true rfl) dX2_init_23 (fun H locs hP hD hS => ?_)
  have hP : va_P (dC, dI) vwCl ([(v0, .inr (1, [.ref v1, .int (nI 0), .ref v2, .int 0])), (v1, .inl (cA, 300, .inl (nA (fun _ => 0)))), (v2, .inl (cA, 16, .inl (nA (fun _ => 0))))]) H := hP
  have hD : va_D A ([(v0, .inr (1, [.ref v1, .int (nI 0), .ref v2, .int 0])), (v1, .inl (cA, 300, .inl (nA (fun _ => 0)))), (v2, .inl (cA, 16, .inl (nA (fun _ => 0))))]) := hD
  refine lv_aload_n hx hb dX2_init_26 rfl (lv_at hl 0 rfl) ?_
  refine lv_iconst (v := nI 0) hx hb dX2_init_27 (by decide) ?_
  refine va_put (D := (dC, dI)) (ci := 1) (v := .int (nI 0)) (ty := .int) (C := RX2) (T := TX2) (N := 4) hx hb hts hinX2 tyX2 tyX2_ok nmX2 hown hK hP hD hS 0 rfl rfl 3 (by decide) hf_22 (fun _ h9 => h9) rfl (by decide +kernel) rfl rfl (Nat.le_of_ble_eq_true rfl) dX2_init_28 (fun H locs hP hD hS => ?_)
  have hP : va_P (dC, dI) vwCl ([(v0, .inr (1, [.ref v1, .int (nI 0), .ref v2, .int (nI 0)])), (v1, .inl (cA, 300, .inl (nA (fun _ => 0)))), (v2, .inl (cA, 16, .inl (nA (fun _ => 0))))]) H := hP
  have hD : va_D A ([(v0, .inr (1, [.ref v1, .int (nI 0), .ref v2, .int (nI 0)])), (v1, .inl (cA, 300, .inl (nA (fun _ => 0)))), (v2, .inl (cA, 16, .inl (nA (fun _ => 0))))]) := hD
  have hP9 : va_P (dC, dI) vwCl (vX2_init cA v0 (v1, v2)) _ := hP.sub [0, 1, 2] rfl
  have hD9 : va_D A (vX2_init cA v0 (v1, v2)) := hD.sub [0, 1, 2] (by decide) rfl
  exact W.vret hx hb hr (fun t ht hW => ⟨⟨(v1, v2), rfl, trivial, by rw [ht]; exact hP9, va_K.moved hW.alike hK, hD9⟩, hS.F ht⟩) hS.2.2 dX2_init_31
abbrev vX0_init (cA : ClassId) (r0 : Nat) : Nat × Nat × Nat × Nat × Nat × Nat → va_W := fun u => match u with | (r1, r2, r3, r4, r5, r6) => wR cA r0 r1 r2 r3 r4 r5 r6 (fun _ => 0) 0 (fun _ => 0) (fun _ => 0) (fun _ => 0) (fun _ => 0) 0 (fun _ => 0) 0 (-1)
set_option maxHeartbeats 4000000 in
set_option maxRecDepth 100000 in
theorem k_X0_init (l : Launch) (dC : Nat → ClassId) (dI : Nat → Nat → Nat) (cA : ClassId) (r0 : Nat) (sz : Nat) : Met l yX0_init wsX0_init ({ frames := 1, cells := 6, slots := 572, locals := 12 } : Room) (va_Pc [.ref r0] (cPre dC dI cA ([(r0, .inr (0, [.null, .int 0, .null, .null, .null, .null, .int 0, .null, .int 0, .int 0]))]) sz)) (va_Qv (fun _ => True : Nat × Nat × Nat × Nat × Nat × Nat → Prop) (fun u => cAft dC dI cA (va_A ([(r0, .inr (0, [.null, .int 0, .null, .null, .null, .null, .int 0, .null, .int 0, .int 0]))]) sz) (vX0_init cA r0 u)) (va_A ([(r0, .inr (0, [.null, .int 0, .null, .null, .null, .null, .int 0, .null, .int 0, .int 0]))]) sz)) 6 572 (va_A ([(r0, .inr (0, [.null, .int 0, .null, .null, .null, .null, .int 0, .null, .int 0, .int 0]))]) sz) := by
  refine Met.ofW (cc := cX0_init) (maxL := 1) (ret := none) (by decide) rfl ?_
  intro p e s m args below meth c s₁ B hml hv
  obtain ⟨rfl, hsz, hP, hK, hD0⟩ := hv
  have hx := B.exec
  have hb := B.bytes
  have hr := B.returns
  have hts := atoms_spec (ws := wsX0_init) B.pre
  have hown : s.vm.findClass RX0 = some m.cls := findClass_of_methodNamed B.named
  have hlocks := B.notSynchronized
  have hin : meth.name = "<init>" := (name_of_methodNamed B.named B.method).1
  subst hsz
  have hD := hD0.self (sz := s.heap.size)
  generalize hAe : va_A ([(r0, .inr (0, [.null, .int 0, .null, .null, .null, .null, .int 0, .null, .int 0, .int 0]))]) s.heap.size = A at hD ⊢
  have hA : ∀ q : Nat, s.heap.size ≤ q → A q := fun q h => by rw [← hAe]; exact Or.inr h
  have hS : va_S A s.heap s.heap [] := va_S.rf
  have hl := lv_entry ([.ref r0]) (n := 1) (Nat.le_of_ble_eq_true rfl)
  rw [lg_entry_eq]
  generalize (lg_sl ([.ref r0]) ++ List.replicate (1 - (lg_sl ([.ref r0])).length) Slot.unset).toArray = ls at hl ⊢
  have hl : lv_has ls 1 [(0, .ref r0)] := hl
  have hinX0 : ∀ w ∈ wsX00, w ∈ wsX0_init := fun _ h => List.mem_cons_of_mem _ (List.mem_append_right _ h)
  have hP : va_P (dC, dI) vwCl ([(r0, .inr (0, [.null, .int 0, .null, .null, .null, .null, .int 0, .null, .int 0, .int 0]))]) s.heap := hP
  have hf_9 := hts (.fieldLink RX0 9 "DerDesk$Reader" "row" "[I") (by decide +kernel)
  have hf_15 := hts (.fieldLink RX0 15 "DerDesk$Reader" "rowSize" "I") (by decide +kernel)
  have hf_19 := hts (.fieldLink RX0 19 "DerDesk$Reader" "tags" "[I") (by decide +kernel)
  have hf_22 := hts (.fieldLink RX0 22 "DerDesk$Reader" "starts" "[I") (by decide +kernel)
  have hf_25 := hts (.fieldLink RX0 25 "DerDesk$Reader" "lengths" "[I") (by decide +kernel)
  have hf_28 := hts (.fieldLink RX0 28 "DerDesk$Reader" "parents" "[I") (by decide +kernel)
  have hf_31 := hts (.fieldLink RX0 31 "DerDesk$Reader" "nodes" "I") (by decide +kernel)
  have hf_34 := hts (.fieldLink RX0 34 "DerDesk$Reader" "around" "[I") (by decide +kernel)
  have hf_37 := hts (.fieldLink RX0 37 "DerDesk$Reader" "level" "I") (by decide +kernel)
  have hf_40 := hts (.fieldLink RX0 40 "DerDesk$Reader" "offencePlace" "I") (by decide +kernel)
  refine lv_aload_n hx hb dX0_init_0 rfl (lv_at hl 0 rfl) ?_
  refine W.objInit hx hb hown (hts (.methodLink RX0 3 objectInit) (by decide +kernel)) (hts (.instanceMethod objectInit) (by decide +kernel)) (hts (.code objectInit ⟨#[0xb1]⟩ 1 none) (by decide +kernel)) rfl (by rw [hml]; exact hl.1) rfl dX0_init_1 (Nat.le_of_ble_eq_true rfl) (Nat.le_of_ble_eq_true rfl) ?_
  refine W.eq (g2 := F0 m 4 ls []) rfl ?_
  refine lv_aload_n hx hb dX0_init_4 rfl (lv_at hl 0 rfl) ?_
  refine lv_sipush (v := nI 300) hx hb dX0_init_5 (by decide) ?_
  refine va_newa (atype := .int) (ty := .int) hx hb (hts (.arrayClass .int) (by decide +kernel)) rfl hK hP hD hS hA (n := nI 300) (N' := 300) (a0 := (300, .inl (nA (fun _ => 0)))) (fun cB => z_cell cB 300) (by decide) (nI_clamp (by decide)) (Nat.le_of_ble_eq_true rfl) (Nat.le_of_ble_eq_true rfl) (Nat.le_of_ble_eq_true rfl) dX0_init_8 (fun r1 cB H hK hP hD hS => ?_)
  have hcB := one_cA hK
  subst hcB
  have hK : va_K (dC, dI) vwCl [(cA, .int)] s := hK.sub [0] rfl
  have hP : va_P (dC, dI) vwCl ([(r0, .inr (0, [.null, .int 0, .null, .null, .null, .null, .int 0, .null, .int 0, .int 0])), (r1, .inl (cA, 300, .inl (nA (fun _ => 0))))]) H := hP
  have hD : va_D A ([(r0, .inr (0, [.null, .int 0, .null, .null, .null, .null, .int 0, .null, .int 0, .int 0])), (r1, .inl (cA, 300, .inl (nA (fun _ => 0))))]) := hD
  refine W.widen (k := 1) (n := 300) (Nat.le_of_ble_eq_true rfl) (Nat.le_of_ble_eq_true rfl) ?_
  refine va_putF (D := (dC, dI)) (ci := 0) (v := .ref r1) (ty := .array .int) (C := RX0) (T := TX0) (N := 10) hx hb hts hinX0 tyX0 tyX0_ok nmX0 hown hK hP hD hS 0 rfl rfl 0 (by decide) hf_9 (fun _ h9 => h9) rfl hin rfl (by decide +kernel) rfl rfl (Nat.le_of_ble_eq_true rfl) dX0_init_10 (fun H locs hP hD hS => ?_)
  have hP : va_P (dC, dI) vwCl ([(r0, .inr (0, [.ref r1, .int 0, .null, .null, .null, .null, .int 0, .null, .int 0, .int 0])), (r1, .inl (cA, 300, .inl (nA (fun _ => 0))))]) H := hP
  have hD : va_D A ([(r0, .inr (0, [.ref r1, .int 0, .null, .null, .null, .null, .int 0, .null, .int 0, .int 0])), (r1, .inl (cA, 300, .inl (nA (fun _ => 0))))]) := hD
  refine lv_aload_n hx hb dX0_init_13 rfl (lv_at hl 0 rfl) ?_
  refine lv_iconst (v := nI 0) hx hb dX0_init_14 (by decide) ?_
  refine va_put (D := (dC, dI)) (ci := 0) (v := .int (nI 0)) (ty := .int) (C := RX0) (T := TX0) (N := 10) hx hb hts hinX0 tyX0 tyX0_ok nmX0 hown hK hP hD hS 0 rfl rfl 1 (by decide) hf_15 (fun _ h9 => h9) rfl (by decide +kernel) rfl rfl (Nat.le_of_ble_eq_true rfl) dX0_init_15 (fun H locs hP hD hS => ?_)
  have hP : va_P (dC, dI) vwCl ([(r0, .inr (0, [.ref r1, .int (nI 0), .null, .null, .null, .null, .int 0, .null, .int 0, .int 0])), (r1, .inl (cA, 300, .inl (nA (fun _ => 0))))]) H := hP
  have hD : va_D A ([(r0, .inr (0, [.ref r1, .int (nI 0), .null, .null, .null, .null, .int 0, .null, .int 0, .int 0])), (r1, .inl (cA, 300, .inl (nA (fun _ => 0))))]) := hD
  refine lv_aload_n hx hb dX0_init_18 rfl (lv_at hl 0 rfl) ?_
  refine lv_bipush (v := nI 64) hx hb dX0_init_19 (by decide) ?_
  refine va_newa (atype := .int) (ty := .int) hx hb (hts (.arrayClass .int) (by decide +kernel)) rfl hK hP hD hS hA (n := nI 64) (N' := 64) (a0 := (64, .inl (nA (fun _ => 0)))) (fun cB => z_cell cB 64) (by decide) (nI_clamp (by decide)) (Nat.le_of_ble_eq_true rfl) (Nat.le_of_ble_eq_true rfl) (Nat.le_of_ble_eq_true rfl) dX0_init_21 (fun r2 cB H hK hP hD hS => ?_)
  have hcB := one_cA hK
  subst hcB
  have hK : va_K (dC, dI) vwCl [(cA, .int)] s := hK.sub [0] rfl
  have hP : va_P (dC, dI) vwCl ([(r0, .inr (0, [.ref r1, .int (nI 0), .null, .null, .null, .null, .int 0, .null, .int 0, .int 0])), (r1, .inl (cA, 300, .inl (nA (fun _ => 0)))), (r2, .inl (cA, 64, .inl (nA (fun _ => 0))))]) H := hP
  have hD : va_D A ([(r0, .inr (0, [.ref r1, .int (nI 0), .null, .null, .null, .null, .int 0, .null, .int 0, .int 0])), (r1, .inl (cA, 300, .inl (nA (fun _ => 0)))), (r2, .inl (cA, 64, .inl (nA (fun _ => 0))))]) := hD
  refine W.widen (k := 2) (n := 364) (Nat.le_of_ble_eq_true rfl) (Nat.le_of_ble_eq_true rfl) ?_
  refine va_putF (D := (dC, dI)) (ci := 0) (v := .ref r2) (ty := .array .int) (C := RX0) (T := TX0) (N := 10) hx hb hts hinX0 tyX0 tyX0_ok nmX0 hown hK hP hD hS 0 rfl rfl 2 (by decide) hf_19 (fun _ h9 => h9) rfl hin rfl (by decide +kernel) rfl rfl (Nat.le_of_ble_eq_true rfl) dX0_init_23 (fun H locs hP hD hS => ?_)
  have hP : va_P (dC, dI) vwCl ([(r0, .inr (0, [.ref r1, .int (nI 0), .ref r2, .null, .null, .null, .int 0, .null, .int 0, .int 0])), (r1, .inl (cA, 300, .inl (nA (fun _ => 0)))), (r2, .inl (cA, 64, .inl (nA (fun _ => 0))))]) H := hP
  have hD : va_D A ([(r0, .inr (0, [.ref r1, .int (nI 0), .ref r2, .null, .null, .null, .int 0, .null, .int 0, .int 0])), (r1, .inl (cA, 300, .inl (nA (fun _ => 0)))), (r2, .inl (cA, 64, .inl (nA (fun _ => 0))))]) := hD
  refine lv_aload_n hx hb dX0_init_26 rfl (lv_at hl 0 rfl) ?_
  refine lv_bipush (v := nI 64) hx hb dX0_init_27 (by decide) ?_
  refine va_newa (atype := .int) (ty := .int) hx hb (hts (.arrayClass .int) (by decide +kernel)) rfl hK hP hD hS hA (n := nI 64) (N' := 64) (a0 := (64, .inl (nA (fun _ => 0)))) (fun cB => z_cell cB 64) (by decide) (nI_clamp (by decide)) (Nat.le_of_ble_eq_true rfl) (Nat.le_of_ble_eq_true rfl) (Nat.le_of_ble_eq_true rfl) dX0_init_29 (fun r3 cB H hK hP hD hS => ?_)
  have hcB := one_cA hK
  subst hcB
  have hK : va_K (dC, dI) vwCl [(cA, .int)] s := hK.sub [0] rfl
  have hP : va_P (dC, dI) vwCl ([(r0, .inr (0, [.ref r1, .int (nI 0), .ref r2, .null, .null, .null, .int 0, .null, .int 0, .int 0])), (r1, .inl (cA, 300, .inl (nA (fun _ => 0)))), (r2, .inl (cA, 64, .inl (nA (fun _ => 0)))), (r3, .inl (cA, 64, .inl (nA (fun _ => 0))))]) H := hP
  have hD : va_D A ([(r0, .inr (0, [.ref r1, .int (nI 0), .ref r2, .null, .null, .null, .int 0, .null, .int 0, .int 0])), (r1, .inl (cA, 300, .inl (nA (fun _ => 0)))), (r2, .inl (cA, 64, .inl (nA (fun _ => 0)))), (r3, .inl (cA, 64, .inl (nA (fun _ => 0))))]) := hD
  refine W.widen (k := 3) (n := 428) (Nat.le_of_ble_eq_true rfl) (Nat.le_of_ble_eq_true rfl) ?_
  refine va_putF (D := (dC, dI)) (ci := 0) (v := .ref r3) (ty := .array .int) (C := RX0) (T := TX0) (N := 10) hx hb hts hinX0 tyX0 tyX0_ok nmX0 hown hK hP hD hS 0 rfl rfl 3 (by decide) hf_22 (fun _ h9 => h9) rfl hin rfl (by decide +kernel) rfl rfl (Nat.le_of_ble_eq_true rfl) dX0_init_31 (fun H locs hP hD hS => ?_)
  have hP : va_P (dC, dI) vwCl ([(r0, .inr (0, [.ref r1, .int (nI 0), .ref r2, .ref r3, .null, .null, .int 0, .null, .int 0, .int 0])), (r1, .inl (cA, 300, .inl (nA (fun _ => 0)))), (r2, .inl (cA, 64, .inl (nA (fun _ => 0)))), (r3, .inl (cA, 64, .inl (nA (fun _ => 0))))]) H := hP
  have hD : va_D A ([(r0, .inr (0, [.ref r1, .int (nI 0), .ref r2, .ref r3, .null, .null, .int 0, .null, .int 0, .int 0])), (r1, .inl (cA, 300, .inl (nA (fun _ => 0)))), (r2, .inl (cA, 64, .inl (nA (fun _ => 0)))), (r3, .inl (cA, 64, .inl (nA (fun _ => 0))))]) := hD
  refine lv_aload_n hx hb dX0_init_34 rfl (lv_at hl 0 rfl) ?_
  refine lv_bipush (v := nI 64) hx hb dX0_init_35 (by decide) ?_
  refine va_newa (atype := .int) (ty := .int) hx hb (hts (.arrayClass .int) (by decide +kernel)) rfl hK hP hD hS hA (n := nI 64) (N' := 64) (a0 := (64, .inl (nA (fun _ => 0)))) (fun cB => z_cell cB 64) (by decide) (nI_clamp (by decide)) (Nat.le_of_ble_eq_true rfl) (Nat.le_of_ble_eq_true rfl) (Nat.le_of_ble_eq_true rfl) dX0_init_37 (fun r4 cB H hK hP hD hS => ?_)
  have hcB := one_cA hK
  subst hcB
  have hK : va_K (dC, dI) vwCl [(cA, .int)] s := hK.sub [0] rfl
  have hP : va_P (dC, dI) vwCl ([(r0, .inr (0, [.ref r1, .int (nI 0), .ref r2, .ref r3, .null, .null, .int 0, .null, .int 0, .int 0])), (r1, .inl (cA, 300, .inl (nA (fun _ => 0)))), (r2, .inl (cA, 64, .inl (nA (fun _ => 0)))), (r3, .inl (cA, 64, .inl (nA (fun _ => 0)))), (r4, .inl (cA, 64, .inl (nA (fun _ => 0))))]) H := hP
  have hD : va_D A ([(r0, .inr (0, [.ref r1, .int (nI 0), .ref r2, .ref r3, .null, .null, .int 0, .null, .int 0, .int 0])), (r1, .inl (cA, 300, .inl (nA (fun _ => 0)))), (r2, .inl (cA, 64, .inl (nA (fun _ => 0)))), (r3, .inl (cA, 64, .inl (nA (fun _ => 0)))), (r4, .inl (cA, 64, .inl (nA (fun _ => 0))))]) := hD
  refine W.widen (k := 4) (n := 492) (Nat.le_of_ble_eq_true rfl) (Nat.le_of_ble_eq_true rfl) ?_
  refine va_putF (D := (dC, dI)) (ci := 0) (v := .ref r4) (ty := .array .int) (C := RX0) (T := TX0) (N := 10) hx hb hts hinX0 tyX0 tyX0_ok nmX0 hown hK hP hD hS 0 rfl rfl 4 (by decide) hf_25 (fun _ h9 => h9) rfl hin rfl (by decide +kernel) rfl rfl (Nat.le_of_ble_eq_true rfl) dX0_init_39 (fun H locs hP hD hS => ?_)
  have hP : va_P (dC, dI) vwCl ([(r0, .inr (0, [.ref r1, .int (nI 0), .ref r2, .ref r3, .ref r4, .null, .int 0, .null, .int 0, .int 0])), (r1, .inl (cA, 300, .inl (nA (fun _ => 0)))), (r2, .inl (cA, 64, .inl (nA (fun _ => 0)))), (r3, .inl (cA, 64, .inl (nA (fun _ => 0)))), (r4, .inl (cA, 64, .inl (nA (fun _ => 0))))]) H := hP
  have hD : va_D A ([(r0, .inr (0, [.ref r1, .int (nI 0), .ref r2, .ref r3, .ref r4, .null, .int 0, .null, .int 0, .int 0])), (r1, .inl (cA, 300, .inl (nA (fun _ => 0)))), (r2, .inl (cA, 64, .inl (nA (fun _ => 0)))), (r3, .inl (cA, 64, .inl (nA (fun _ => 0)))), (r4, .inl (cA, 64, .inl (nA (fun _ => 0))))]) := hD
  refine lv_aload_n hx hb dX0_init_42 rfl (lv_at hl 0 rfl) ?_
  refine lv_bipush (v := nI 64) hx hb dX0_init_43 (by decide) ?_
  refine va_newa (atype := .int) (ty := .int) hx hb (hts (.arrayClass .int) (by decide +kernel)) rfl hK hP hD hS hA (n := nI 64) (N' := 64) (a0 := (64, .inl (fun _ => 0))) (fun cB => z_cellI cB 64) (by decide) (nI_clamp (by decide)) (Nat.le_of_ble_eq_true rfl) (Nat.le_of_ble_eq_true rfl) (Nat.le_of_ble_eq_true rfl) dX0_init_45 (fun r5 cB H hK hP hD hS => ?_)
  have hcB := one_cA hK
  subst hcB
  have hK : va_K (dC, dI) vwCl [(cA, .int)] s := hK.sub [0] rfl
  have hP : va_P (dC, dI) vwCl ([(r0, .inr (0, [.ref r1, .int (nI 0), .ref r2, .ref r3, .ref r4, .null, .int 0, .null, .int 0, .int 0])), (r1, .inl (cA, 300, .inl (nA (fun _ => 0)))), (r2, .inl (cA, 64, .inl (nA (fun _ => 0)))), (r3, .inl (cA, 64, .inl (nA (fun _ => 0)))), (r4, .inl (cA, 64, .inl (nA (fun _ => 0)))), (r5, .inl (cA, 64, .inl (fun _ => 0)))]) H := hP
  have hD : va_D A ([(r0, .inr (0, [.ref r1, .int (nI 0), .ref r2, .ref r3, .ref r4, .null, .int 0, .null, .int 0, .int 0])), (r1, .inl (cA, 300, .inl (nA (fun _ => 0)))), (r2, .inl (cA, 64, .inl (nA (fun _ => 0)))), (r3, .inl (cA, 64, .inl (nA (fun _ => 0)))), (r4, .inl (cA, 64, .inl (nA (fun _ => 0)))), (r5, .inl (cA, 64, .inl (fun _ => 0)))]) := hD
  refine W.widen (k := 5) (n := 556) (Nat.le_of_ble_eq_true rfl) (Nat.le_of_ble_eq_true rfl) ?_
  refine va_putF (D := (dC, dI)) (ci := 0) (v := .ref r5) (ty := .array .int) (C := RX0) (T := TX0) (N := 10) hx hb hts hinX0 tyX0 tyX0_ok nmX0 hown hK hP hD hS 0 rfl rfl 5 (by decide) hf_28 (fun _ h9 => h9) rfl hin rfl (by decide +kernel) rfl rfl (Nat.le_of_ble_eq_true rfl) dX0_init_47 (fun H locs hP hD hS => ?_)
  have hP : va_P (dC, dI) vwCl ([(r0, .inr (0, [.ref r1, .int (nI 0), .ref r2, .ref r3, .ref r4, .ref r5, .int 0, .null, .int 0, .int 0])), (r1, .inl (cA, 300, .inl (nA (fun _ => 0)))), (r2, .inl (cA, 64, .inl (nA (fun _ => 0)))), (r3, .inl (cA, 64, .inl (nA (fun _ => 0)))), (r4, .inl (cA, 64, .inl (nA (fun _ => 0)))), (r5, .inl (cA, 64, .inl (fun _ => 0)))]) H := hP
  have hD : va_D A ([(r0, .inr (0, [.ref r1, .int (nI 0), .ref r2, .ref r3, .ref r4, .ref r5, .int 0, .null, .int 0, .int 0])), (r1, .inl (cA, 300, .inl (nA (fun _ => 0)))), (r2, .inl (cA, 64, .inl (nA (fun _ => 0)))), (r3, .inl (cA, 64, .inl (nA (fun _ => 0)))), (r4, .inl (cA, 64, .inl (nA (fun _ => 0)))), (r5, .inl (cA, 64, .inl (fun _ => 0)))]) := hD
  refine lv_aload_n hx hb dX0_init_50 rfl (lv_at hl 0 rfl) ?_
  refine lv_iconst (v := nI 0) hx hb dX0_init_51 (by decide) ?_
  refine va_put (D := (dC, dI)) (ci := 0) (v := .int (nI 0)) (ty := .int) (C := RX0) (T := TX0) (N := 10) hx hb hts hinX0 tyX0 tyX0_ok nmX0 hown hK hP hD hS 0 rfl rfl 6 (by decide) hf_31 (fun _ h9 => h9) rfl (by decide +kernel) rfl rfl (Nat.le_of_ble_eq_true rfl) dX0_init_52 (fun H locs hP hD hS => ?_)
  have hP : va_P (dC, dI) vwCl ([(r0, .inr (0, [.ref r1, .int (nI 0), .ref r2, .ref r3, .ref r4, .ref r5, .int (nI 0), .null, .int 0, .int 0])), (r1, .inl (cA, 300, .inl (nA (fun _ => 0)))), (r2, .inl (cA, 64, .inl (nA (fun _ => 0)))), (r3, .inl (cA, 64, .inl (nA (fun _ => 0)))), (r4, .inl (cA, 64, .inl (nA (fun _ => 0)))), (r5, .inl (cA, 64, .inl (fun _ => 0)))]) H := hP
  have hD : va_D A ([(r0, .inr (0, [.ref r1, .int (nI 0), .ref r2, .ref r3, .ref r4, .ref r5, .int (nI 0), .null, .int 0, .int 0])), (r1, .inl (cA, 300, .inl (nA (fun _ => 0)))), (r2, .inl (cA, 64, .inl (nA (fun _ => 0)))), (r3, .inl (cA, 64, .inl (nA (fun _ => 0)))), (r4, .inl (cA, 64, .inl (nA (fun _ => 0)))), (r5, .inl (cA, 64, .inl (fun _ => 0)))]) := hD
  refine lv_aload_n hx hb dX0_init_55 rfl (lv_at hl 0 rfl) ?_
  refine lv_bipush (v := nI 16) hx hb dX0_init_56 (by decide) ?_
  refine va_newa (atype := .int) (ty := .int) hx hb (hts (.arrayClass .int) (by decide +kernel)) rfl hK hP hD hS hA (n := nI 16) (N' := 16) (a0 := (16, .inl (nA (fun _ => 0)))) (fun cB => z_cell cB 16) (by decide) (nI_clamp (by decide)) (Nat.le_of_ble_eq_true rfl) (Nat.le_of_ble_eq_true rfl) (Nat.le_of_ble_eq_true rfl) dX0_init_58 (fun r6 cB H hK hP hD hS => ?_)
  have hcB := one_cA hK
  subst hcB
  have hK : va_K (dC, dI) vwCl [(cA, .int)] s := hK.sub [0] rfl
  have hP : va_P (dC, dI) vwCl ([(r0, .inr (0, [.ref r1, .int (nI 0), .ref r2, .ref r3, .ref r4, .ref r5, .int (nI 0), .null, .int 0, .int 0])), (r1, .inl (cA, 300, .inl (nA (fun _ => 0)))), (r2, .inl (cA, 64, .inl (nA (fun _ => 0)))), (r3, .inl (cA, 64, .inl (nA (fun _ => 0)))), (r4, .inl (cA, 64, .inl (nA (fun _ => 0)))), (r5, .inl (cA, 64, .inl (fun _ => 0))), (r6, .inl (cA, 16, .inl (nA (fun _ => 0))))]) H := hP
  have hD : va_D A ([(r0, .inr (0, [.ref r1, .int (nI 0), .ref r2, .ref r3, .ref r4, .ref r5, .int (nI 0), .null, .int 0, .int 0])), (r1, .inl (cA, 300, .inl (nA (fun _ => 0)))), (r2, .inl (cA, 64, .inl (nA (fun _ => 0)))), (r3, .inl (cA, 64, .inl (nA (fun _ => 0)))), (r4, .inl (cA, 64, .inl (nA (fun _ => 0)))), (r5, .inl (cA, 64, .inl (fun _ => 0))), (r6, .inl (cA, 16, .inl (nA (fun _ => 0))))]) := hD
  refine W.widen (k := 6) (n := 572) (Nat.le_of_ble_eq_true rfl) (Nat.le_of_ble_eq_true rfl) ?_
  refine va_putF (D := (dC, dI)) (ci := 0) (v := .ref r6) (ty := .array .int) (C := RX0) (T := TX0) (N := 10) hx hb hts hinX0 tyX0 tyX0_ok nmX0 hown hK hP hD hS 0 rfl rfl 7 (by decide) hf_34 (fun _ h9 => h9) rfl hin rfl (by decide +kernel) rfl rfl (Nat.le_of_ble_eq_true rfl) dX0_init_60 (fun H locs hP hD hS => ?_)
  have hP : va_P (dC, dI) vwCl ([(r0, .inr (0, [.ref r1, .int (nI 0), .ref r2, .ref r3, .ref r4, .ref r5, .int (nI 0), .ref r6, .int 0, .int 0])), (r1, .inl (cA, 300, .inl (nA (fun _ => 0)))), (r2, .inl (cA, 64, .inl (nA (fun _ => 0)))), (r3, .inl (cA, 64, .inl (nA (fun _ => 0)))), (r4, .inl (cA, 64, .inl (nA (fun _ => 0)))), (r5, .inl (cA, 64, .inl (fun _ => 0))), (r6, .inl (cA, 16, .inl (nA (fun _ => 0))))]) H := hP
  have hD : va_D A ([(r0, .inr (0, [.ref r1, .int (nI 0), .ref r2, .ref r3, .ref r4, .ref r5, .int (nI 0), .ref r6, .int 0, .int 0])), (r1, .inl (cA, 300, .inl (nA (fun _ => 0)))), (r2, .inl (cA, 64, .inl (nA (fun _ => 0)))), (r3, .inl (cA, 64, .inl (nA (fun _ => 0)))), (r4, .inl (cA, 64, .inl (nA (fun _ => 0)))), (r5, .inl (cA, 64, .inl (fun _ => 0))), (r6, .inl (cA, 16, .inl (nA (fun _ => 0))))]) := hD
  refine lv_aload_n hx hb dX0_init_63 rfl (lv_at hl 0 rfl) ?_
  refine lv_iconst (v := nI 0) hx hb dX0_init_64 (by decide) ?_
  refine va_put (D := (dC, dI)) (ci := 0) (v := .int (nI 0)) (ty := .int) (C := RX0) (T := TX0) (N := 10) hx hb hts hinX0 tyX0 tyX0_ok nmX0 hown hK hP hD hS 0 rfl rfl 8 (by decide) hf_37 (fun _ h9 => h9) rfl (by decide +kernel) rfl rfl (Nat.le_of_ble_eq_true rfl) dX0_init_65 (fun H locs hP hD hS => ?_)
  have hP : va_P (dC, dI) vwCl ([(r0, .inr (0, [.ref r1, .int (nI 0), .ref r2, .ref r3, .ref r4, .ref r5, .int (nI 0), .ref r6, .int (nI 0), .int 0])), (r1, .inl (cA, 300, .inl (nA (fun _ => 0)))), (r2, .inl (cA, 64, .inl (nA (fun _ => 0)))), (r3, .inl (cA, 64, .inl (nA (fun _ => 0)))), (r4, .inl (cA, 64, .inl (nA (fun _ => 0)))), (r5, .inl (cA, 64, .inl (fun _ => 0))), (r6, .inl (cA, 16, .inl (nA (fun _ => 0))))]) H := hP
  have hD : va_D A ([(r0, .inr (0, [.ref r1, .int (nI 0), .ref r2, .ref r3, .ref r4, .ref r5, .int (nI 0), .ref r6, .int (nI 0), .int 0])), (r1, .inl (cA, 300, .inl (nA (fun _ => 0)))), (r2, .inl (cA, 64, .inl (nA (fun _ => 0)))), (r3, .inl (cA, 64, .inl (nA (fun _ => 0)))), (r4, .inl (cA, 64, .inl (nA (fun _ => 0)))), (r5, .inl (cA, 64, .inl (fun _ => 0))), (r6, .inl (cA, 16, .inl (nA (fun _ => 0))))]) := hD
  refine lv_aload_n hx hb dX0_init_68 rfl (lv_at hl 0 rfl) ?_
  refine lv_iconst (v := (-1)) hx hb dX0_init_69 (by decide) ?_
  refine va_put (D := (dC, dI)) (ci := 0) (v := .int (-1)) (ty := .int) (C := RX0) (T := TX0) (N := 10) hx hb hts hinX0 tyX0 tyX0_ok nmX0 hown hK hP hD hS 0 rfl rfl 9 (by decide) hf_40 (fun _ h9 => h9) rfl (by decide +kernel) rfl rfl (Nat.le_of_ble_eq_true rfl) dX0_init_70 (fun H locs hP hD hS => ?_)
  have hP : va_P (dC, dI) vwCl ([(r0, .inr (0, [.ref r1, .int (nI 0), .ref r2, .ref r3, .ref r4, .ref r5, .int (nI 0), .ref r6, .int (nI 0), .int (-1)])), (r1, .inl (cA, 300, .inl (nA (fun _ => 0)))), (r2, .inl (cA, 64, .inl (nA (fun _ => 0)))), (r3, .inl (cA, 64, .inl (nA (fun _ => 0)))), (r4, .inl (cA, 64, .inl (nA (fun _ => 0)))), (r5, .inl (cA, 64, .inl (fun _ => 0))), (r6, .inl (cA, 16, .inl (nA (fun _ => 0))))]) H := hP
  have hD : va_D A ([(r0, .inr (0, [.ref r1, .int (nI 0), .ref r2, .ref r3, .ref r4, .ref r5, .int (nI 0), .ref r6, .int (nI 0), .int (-1)])), (r1, .inl (cA, 300, .inl (nA (fun _ => 0)))), (r2, .inl (cA, 64, .inl (nA (fun _ => 0)))), (r3, .inl (cA, 64, .inl (nA (fun _ => 0)))), (r4, .inl (cA, 64, .inl (nA (fun _ => 0)))), (r5, .inl (cA, 64, .inl (fun _ => 0))), (r6, .inl (cA, 16, .inl (nA (fun _ => 0))))]) := hD
  have hP9 : va_P (dC, dI) vwCl (vX0_init cA r0 (r1, r2, r3, r4, r5, r6)) _ := hP.sub [0, 1, 2, 3, 4, 5, 6] rfl
  have hD9 : va_D A (vX0_init cA r0 (r1, r2, r3, r4, r5, r6)) := hD.sub [0, 1, 2, 3, 4, 5, 6] (by decide) rfl
  exact W.vret hx hb hr (fun t ht hW => ⟨⟨(r1, r2, r3, r4, r5, r6), rfl, trivial, by rw [ht]; exact hP9, va_K.moved hW.alike hK, hD9⟩, hS.F ht⟩) hS.2.2 dX0_init_73
abbrev vX4_init (cA : ClassId) (m0 : Nat) : Nat × Nat × Nat × Nat × Nat × Nat × Nat × Nat × Nat → va_W := fun u => match u with | (m1, m2, m3, m4, m5, m6, m7, m8, m9) => wM cA m0 m1 m2 m3 m4 m5 m6 m7 m8 m9 0 (fun _ => 0) 0 0 (fun _ => 0) (fun _ => 0) (fun _ => 0) (fun _ => 0) 0 (-1) (fun _ => 0) 0 0 0 0 0 (fun _ => 0) (fun _ => 0) 0 (fun _ => 0) 0 0
set_option maxHeartbeats 4000000 in
set_option maxRecDepth 100000 in
theorem k_X4_init (l : Launch) (dC : Nat → ClassId) (dI : Nat → Nat → Nat) (cA : ClassId) (m0 : Nat) (sz : Nat) : Met l yX4_init wsX4_init ({ frames := 1, cells := 9, slots := 1189, locals := 12 } : Room) (va_Pc [.ref m0] (cPre dC dI cA ([(m0, .inr (3, [.int 0, .null, .int 0, .int 0, .null, .null, .null, .null, .int 0, .int 0, .null, .int 0, .int 0, .int 0, .int 0, .int 0, .null, .null, .int 0, .null, .int 0, .int 0]))]) sz)) (va_Qv (fun _ => True : Nat × Nat × Nat × Nat × Nat × Nat × Nat × Nat × Nat → Prop) (fun u => cAft dC dI cA (va_A ([(m0, .inr (3, [.int 0, .null, .int 0, .int 0, .null, .null, .null, .null, .int 0, .int 0, .null, .int 0, .int 0, .int 0, .int 0, .int 0, .null, .null, .int 0, .null, .int 0, .int 0]))]) sz) (vX4_init cA m0 u)) (va_A ([(m0, .inr (3, [.int 0, .null, .int 0, .int 0, .null, .null, .null, .null, .int 0, .int 0, .null, .int 0, .int 0, .int 0, .int 0, .int 0, .null, .null, .int 0, .null, .int 0, .int 0]))]) sz)) 9 1189 (va_A ([(m0, .inr (3, [.int 0, .null, .int 0, .int 0, .null, .null, .null, .null, .int 0, .int 0, .null, .int 0, .int 0, .int 0, .int 0, .int 0, .null, .null, .int 0, .null, .int 0, .int 0]))]) sz) := by
  refine Met.ofW (cc := cX4_init) (maxL := 1) (ret := none) (by decide) rfl ?_
  intro p e s m args below meth c s₁ B hml hv
  obtain ⟨rfl, hsz, hP, hK, hD0⟩ := hv
  have hx := B.exec
  have hb := B.bytes
  have hr := B.returns
  have hts := atoms_spec (ws := wsX4_init) B.pre
  have hown : s.vm.findClass RX4 = some m.cls := findClass_of_methodNamed B.named
  have hlocks := B.notSynchronized
  have hin : meth.name = "<init>" := (name_of_methodNamed B.named B.method).1
  subst hsz
  have hD := hD0.self (sz := s.heap.size)
  generalize hAe : va_A ([(m0, .inr (3, [.int 0, .null, .int 0, .int 0, .null, .null, .null, .null, .int 0, .int 0, .null, .int 0, .int 0, .int 0, .int 0, .int 0, .null, .null, .int 0, .null, .int 0, .int 0]))]) s.heap.size = A at hD ⊢
  have hA : ∀ q : Nat, s.heap.size ≤ q → A q := fun q h => by rw [← hAe]; exact Or.inr h
  have hS : va_S A s.heap s.heap [] := va_S.rf
  have hl := lv_entry ([.ref m0]) (n := 1) (Nat.le_of_ble_eq_true rfl)
  rw [lg_entry_eq]
  generalize (lg_sl ([.ref m0]) ++ List.replicate (1 - (lg_sl ([.ref m0])).length) Slot.unset).toArray = ls at hl ⊢
  have hl : lv_has ls 1 [(0, .ref m0)] := hl
  have hinX4 : ∀ w ∈ wsX40, w ∈ wsX4_init := fun _ h => List.mem_cons_of_mem _ (List.mem_append_right _ h)
  have hP : va_P (dC, dI) vwCl ([(m0, .inr (3, [.int 0, .null, .int 0, .int 0, .null, .null, .null, .null, .int 0, .int 0, .null, .int 0, .int 0, .int 0, .int 0, .int 0, .null, .null, .int 0, .null, .int 0, .int 0]))]) s.heap := hP
  have hf_7 := hts (.fieldLink RX4 7 "DerDeskModel" "row" "[I") (by decide +kernel)
  have hf_13 := hts (.fieldLink RX4 13 "DerDeskModel" "tags" "[I") (by decide +kernel)
  have hf_16 := hts (.fieldLink RX4 16 "DerDeskModel" "starts" "[I") (by decide +kernel)
  have hf_19 := hts (.fieldLink RX4 19 "DerDeskModel" "lengths" "[I") (by decide +kernel)
  have hf_22 := hts (.fieldLink RX4 22 "DerDeskModel" "parents" "[I") (by decide +kernel)
  have hf_25 := hts (.fieldLink RX4 25 "DerDeskModel" "offence" "I") (by decide +kernel)
  have hf_29 := hts (.fieldLink RX4 29 "DerDeskModel" "around" "[I") (by decide +kernel)
  have hf_32 := hts (.fieldLink RX4 32 "DerDeskModel" "text" "[I") (by decide +kernel)
  have hf_35 := hts (.fieldLink RX4 35 "DerDeskModel" "output" "[I") (by decide +kernel)
  have hf_38 := hts (.fieldLink RX4 38 "DerDeskModel" "opens" "[I") (by decide +kernel)
  refine lv_aload_n hx hb dX4_init_0 rfl (lv_at hl 0 rfl) ?_
  refine W.objInit hx hb hown (hts (.methodLink RX4 1 objectInit) (by decide +kernel)) (hts (.instanceMethod objectInit) (by decide +kernel)) (hts (.code objectInit ⟨#[0xb1]⟩ 1 none) (by decide +kernel)) rfl (by rw [hml]; exact hl.1) rfl dX4_init_1 (Nat.le_of_ble_eq_true rfl) (Nat.le_of_ble_eq_true rfl) ?_
  refine W.eq (g2 := F0 m 4 ls []) rfl ?_
  refine lv_aload_n hx hb dX4_init_4 rfl (lv_at hl 0 rfl) ?_
  refine lv_sipush (v := nI 300) hx hb dX4_init_5 (by decide) ?_
  refine va_newa (atype := .int) (ty := .int) hx hb (hts (.arrayClass .int) (by decide +kernel)) rfl hK hP hD hS hA (n := nI 300) (N' := 300) (a0 := (300, .inl (nA (fun _ => 0)))) (fun cB => z_cell cB 300) (by decide) (nI_clamp (by decide)) (Nat.le_of_ble_eq_true rfl) (Nat.le_of_ble_eq_true rfl) (Nat.le_of_ble_eq_true rfl) dX4_init_8 (fun m1 cB H hK hP hD hS => ?_)
  have hcB := one_cA hK
  subst hcB
  have hK : va_K (dC, dI) vwCl [(cA, .int)] s := hK.sub [0] rfl
  have hP : va_P (dC, dI) vwCl ([(m0, .inr (3, [.int 0, .null, .int 0, .int 0, .null, .null, .null, .null, .int 0, .int 0, .null, .int 0, .int 0, .int 0, .int 0, .int 0, .null, .null, .int 0, .null, .int 0, .int 0])), (m1, .inl (cA, 300, .inl (nA (fun _ => 0))))]) H := hP
  have hD : va_D A ([(m0, .inr (3, [.int 0, .null, .int 0, .int 0, .null, .null, .null, .null, .int 0, .int 0, .null, .int 0, .int 0, .int 0, .int 0, .int 0, .null, .null, .int 0, .null, .int 0, .int 0])), (m1, .inl (cA, 300, .inl (nA (fun _ => 0))))]) := hD
  refine W.widen (k := 1) (n := 300) (Nat.le_of_ble_eq_true rfl) (Nat.le_of_ble_eq_true rfl) ?_
  refine va_putF (D := (dC, dI)) (ci := 3) (v := .ref m1) (ty := .array .int) (C := RX4) (T := TX4) (N := 22) hx hb hts hinX4 tyX4 tyX4_ok nmX4 hown hK hP hD hS 0 rfl rfl 1 (by decide) hf_7 (fun _ h9 => h9) rfl hin rfl (by decide +kernel) rfl rfl (Nat.le_of_ble_eq_true rfl) dX4_init_10 (fun H locs hP hD hS => ?_)
  have hP : va_P (dC, dI) vwCl ([(m0, .inr (3, [.int 0, .ref m1, .int 0, .int 0, .null, .null, .null, .null, .int 0, .int 0, .null, .int 0, .int 0, .int 0, .int 0, .int 0, .null, .null, .int 0, .null, .int 0, .int 0])), (m1, .inl (cA, 300, .inl (nA (fun _ => 0))))]) H := hP
  have hD : va_D A ([(m0, .inr (3, [.int 0, .ref m1, .int 0, .int 0, .null, .null, .null, .null, .int 0, .int 0, .null, .int 0, .int 0, .int 0, .int 0, .int 0, .null, .null, .int 0, .null, .int 0, .int 0])), (m1, .inl (cA, 300, .inl (nA (fun _ => 0))))]) := hD
  refine lv_aload_n hx hb dX4_init_13 rfl (lv_at hl 0 rfl) ?_
  refine lv_bipush (v := nI 64) hx hb dX4_init_14 (by decide) ?_
  refine va_newa (atype := .int) (ty := .int) hx hb (hts (.arrayClass .int) (by decide +kernel)) rfl hK hP hD hS hA (n := nI 64) (N' := 64) (a0 := (64, .inl (nA (fun _ => 0)))) (fun cB => z_cell cB 64) (by decide) (nI_clamp (by decide)) (Nat.le_of_ble_eq_true rfl) (Nat.le_of_ble_eq_true rfl) (Nat.le_of_ble_eq_true rfl) dX4_init_16 (fun m2 cB H hK hP hD hS => ?_)
  have hcB := one_cA hK
  subst hcB
  have hK : va_K (dC, dI) vwCl [(cA, .int)] s := hK.sub [0] rfl
  have hP : va_P (dC, dI) vwCl ([(m0, .inr (3, [.int 0, .ref m1, .int 0, .int 0, .null, .null, .null, .null, .int 0, .int 0, .null, .int 0, .int 0, .int 0, .int 0, .int 0, .null, .null, .int 0, .null, .int 0, .int 0])), (m1, .inl (cA, 300, .inl (nA (fun _ => 0)))), (m2, .inl (cA, 64, .inl (nA (fun _ => 0))))]) H := hP
  have hD : va_D A ([(m0, .inr (3, [.int 0, .ref m1, .int 0, .int 0, .null, .null, .null, .null, .int 0, .int 0, .null, .int 0, .int 0, .int 0, .int 0, .int 0, .null, .null, .int 0, .null, .int 0, .int 0])), (m1, .inl (cA, 300, .inl (nA (fun _ => 0)))), (m2, .inl (cA, 64, .inl (nA (fun _ => 0))))]) := hD
  refine W.widen (k := 2) (n := 364) (Nat.le_of_ble_eq_true rfl) (Nat.le_of_ble_eq_true rfl) ?_
  refine va_putF (D := (dC, dI)) (ci := 3) (v := .ref m2) (ty := .array .int) (C := RX4) (T := TX4) (N := 22) hx hb hts hinX4 tyX4 tyX4_ok nmX4 hown hK hP hD hS 0 rfl rfl 4 (by decide) hf_13 (fun _ h9 => h9) rfl hin rfl (by decide +kernel) rfl rfl (Nat.le_of_ble_eq_true rfl) dX4_init_18 (fun H locs hP hD hS => ?_)
  have hP : va_P (dC, dI) vwCl ([(m0, .inr (3, [.int 0, .ref m1, .int 0, .int 0, .ref m2, .null, .null, .null, .int 0, .int 0, .null, .int 0, .int 0, .int 0, .int 0, .int 0, .null, .null, .int 0, .null, .int 0, .int 0])), (m1, .inl (cA, 300, .inl (nA (fun _ => 0)))), (m2, .inl (cA, 64, .inl (nA (fun _ => 0))))]) H := hP
  have hD : va_D A ([(m0, .inr (3, [.int 0, .ref m1, .int 0, .int 0, .ref m2, .null, .null, .null, .int 0, .int 0, .null, .int 0, .int 0, .int 0, .int 0, .int 0, .null, .null, .int 0, .null, .int 0, .int 0])), (m1, .inl (cA, 300, .inl (nA (fun _ => 0)))), (m2, .inl (cA, 64, .inl (nA (fun _ => 0))))]) := hD
  refine lv_aload_n hx hb dX4_init_21 rfl (lv_at hl 0 rfl) ?_
  refine lv_bipush (v := nI 64) hx hb dX4_init_22 (by decide) ?_
  refine va_newa (atype := .int) (ty := .int) hx hb (hts (.arrayClass .int) (by decide +kernel)) rfl hK hP hD hS hA (n := nI 64) (N' := 64) (a0 := (64, .inl (nA (fun _ => 0)))) (fun cB => z_cell cB 64) (by decide) (nI_clamp (by decide)) (Nat.le_of_ble_eq_true rfl) (Nat.le_of_ble_eq_true rfl) (Nat.le_of_ble_eq_true rfl) dX4_init_24 (fun m3 cB H hK hP hD hS => ?_)
  have hcB := one_cA hK
  subst hcB
  have hK : va_K (dC, dI) vwCl [(cA, .int)] s := hK.sub [0] rfl
  have hP : va_P (dC, dI) vwCl ([(m0, .inr (3, [.int 0, .ref m1, .int 0, .int 0, .ref m2, .null, .null, .null, .int 0, .int 0, .null, .int 0, .int 0, .int 0, .int 0, .int 0, .null, .null, .int 0, .null, .int 0, .int 0])), (m1, .inl (cA, 300, .inl (nA (fun _ => 0)))), (m2, .inl (cA, 64, .inl (nA (fun _ => 0)))), (m3, .inl (cA, 64, .inl (nA (fun _ => 0))))]) H := hP
  have hD : va_D A ([(m0, .inr (3, [.int 0, .ref m1, .int 0, .int 0, .ref m2, .null, .null, .null, .int 0, .int 0, .null, .int 0, .int 0, .int 0, .int 0, .int 0, .null, .null, .int 0, .null, .int 0, .int 0])), (m1, .inl (cA, 300, .inl (nA (fun _ => 0)))), (m2, .inl (cA, 64, .inl (nA (fun _ => 0)))), (m3, .inl (cA, 64, .inl (nA (fun _ => 0))))]) := hD
  refine W.widen (k := 3) (n := 428) (Nat.le_of_ble_eq_true rfl) (Nat.le_of_ble_eq_true rfl) ?_
  refine va_putF (D := (dC, dI)) (ci := 3) (v := .ref m3) (ty := .array .int) (C := RX4) (T := TX4) (N := 22) hx hb hts hinX4 tyX4 tyX4_ok nmX4 hown hK hP hD hS 0 rfl rfl 5 (by decide) hf_16 (fun _ h9 => h9) rfl hin rfl (by decide +kernel) rfl rfl (Nat.le_of_ble_eq_true rfl) dX4_init_26 (fun H locs hP hD hS => ?_)
  have hP : va_P (dC, dI) vwCl ([(m0, .inr (3, [.int 0, .ref m1, .int 0, .int 0, .ref m2, .ref m3, .null, .null, .int 0, .int 0, .null, .int 0, .int 0, .int 0, .int 0, .int 0, .null, .null, .int 0, .null, .int 0, .int 0])), (m1, .inl (cA, 300, .inl (nA (fun _ => 0)))), (m2, .inl (cA, 64, .inl (nA (fun _ => 0)))), (m3, .inl (cA, 64, .inl (nA (fun _ => 0))))]) H := hP
  have hD : va_D A ([(m0, .inr (3, [.int 0, .ref m1, .int 0, .int 0, .ref m2, .ref m3, .null, .null, .int 0, .int 0, .null, .int 0, .int 0, .int 0, .int 0, .int 0, .null, .null, .int 0, .null, .int 0, .int 0])), (m1, .inl (cA, 300, .inl (nA (fun _ => 0)))), (m2, .inl (cA, 64, .inl (nA (fun _ => 0)))), (m3, .inl (cA, 64, .inl (nA (fun _ => 0))))]) := hD
  refine lv_aload_n hx hb dX4_init_29 rfl (lv_at hl 0 rfl) ?_
  refine lv_bipush (v := nI 64) hx hb dX4_init_30 (by decide) ?_
  refine va_newa (atype := .int) (ty := .int) hx hb (hts (.arrayClass .int) (by decide +kernel)) rfl hK hP hD hS hA (n := nI 64) (N' := 64) (a0 := (64, .inl (nA (fun _ => 0)))) (fun cB => z_cell cB 64) (by decide) (nI_clamp (by decide)) (Nat.le_of_ble_eq_true rfl) (Nat.le_of_ble_eq_true rfl) (Nat.le_of_ble_eq_true rfl) dX4_init_32 (fun m4 cB H hK hP hD hS => ?_)
  have hcB := one_cA hK
  subst hcB
  have hK : va_K (dC, dI) vwCl [(cA, .int)] s := hK.sub [0] rfl
  have hP : va_P (dC, dI) vwCl ([(m0, .inr (3, [.int 0, .ref m1, .int 0, .int 0, .ref m2, .ref m3, .null, .null, .int 0, .int 0, .null, .int 0, .int 0, .int 0, .int 0, .int 0, .null, .null, .int 0, .null, .int 0, .int 0])), (m1, .inl (cA, 300, .inl (nA (fun _ => 0)))), (m2, .inl (cA, 64, .inl (nA (fun _ => 0)))), (m3, .inl (cA, 64, .inl (nA (fun _ => 0)))), (m4, .inl (cA, 64, .inl (nA (fun _ => 0))))]) H := hP
  have hD : va_D A ([(m0, .inr (3, [.int 0, .ref m1, .int 0, .int 0, .ref m2, .ref m3, .null, .null, .int 0, .int 0, .null, .int 0, .int 0, .int 0, .int 0, .int 0, .null, .null, .int 0, .null, .int 0, .int 0])), (m1, .inl (cA, 300, .inl (nA (fun _ => 0)))), (m2, .inl (cA, 64, .inl (nA (fun _ => 0)))), (m3, .inl (cA, 64, .inl (nA (fun _ => 0)))), (m4, .inl (cA, 64, .inl (nA (fun _ => 0))))]) := hD
  refine W.widen (k := 4) (n := 492) (Nat.le_of_ble_eq_true rfl) (Nat.le_of_ble_eq_true rfl) ?_
  refine va_putF (D := (dC, dI)) (ci := 3) (v := .ref m4) (ty := .array .int) (C := RX4) (T := TX4) (N := 22) hx hb hts hinX4 tyX4 tyX4_ok nmX4 hown hK hP hD hS 0 rfl rfl 6 (by decide) hf_19 (fun _ h9 => h9) rfl hin rfl (by decide +kernel) rfl rfl (Nat.le_of_ble_eq_true rfl) dX4_init_34 (fun H locs hP hD hS => ?_)
  have hP : va_P (dC, dI) vwCl ([(m0, .inr (3, [.int 0, .ref m1, .int 0, .int 0, .ref m2, .ref m3, .ref m4, .null, .int 0, .int 0, .null, .int 0, .int 0, .int 0, .int 0, .int 0, .null, .null, .int 0, .null, .int 0, .int 0])), (m1, .inl (cA, 300, .inl (nA (fun _ => 0)))), (m2, .inl (cA, 64, .inl (nA (fun _ => 0)))), (m3, .inl (cA, 64, .inl (nA (fun _ => 0)))), (m4, .inl (cA, 64, .inl (nA (fun _ => 0))))]) H := hP
  have hD : va_D A ([(m0, .inr (3, [.int 0, .ref m1, .int 0, .int 0, .ref m2, .ref m3, .ref m4, .null, .int 0, .int 0, .null, .int 0, .int 0, .int 0, .int 0, .int 0, .null, .null, .int 0, .null, .int 0, .int 0])), (m1, .inl (cA, 300, .inl (nA (fun _ => 0)))), (m2, .inl (cA, 64, .inl (nA (fun _ => 0)))), (m3, .inl (cA, 64, .inl (nA (fun _ => 0)))), (m4, .inl (cA, 64, .inl (nA (fun _ => 0))))]) := hD
  refine lv_aload_n hx hb dX4_init_37 rfl (lv_at hl 0 rfl) ?_
  refine lv_bipush (v := nI 64) hx hb dX4_init_38 (by decide) ?_
  refine va_newa (atype := .int) (ty := .int) hx hb (hts (.arrayClass .int) (by decide +kernel)) rfl hK hP hD hS hA (n := nI 64) (N' := 64) (a0 := (64, .inl (fun _ => 0))) (fun cB => z_cellI cB 64) (by decide) (nI_clamp (by decide)) (Nat.le_of_ble_eq_true rfl) (Nat.le_of_ble_eq_true rfl) (Nat.le_of_ble_eq_true rfl) dX4_init_40 (fun m5 cB H hK hP hD hS => ?_)
  have hcB := one_cA hK
  subst hcB
  have hK : va_K (dC, dI) vwCl [(cA, .int)] s := hK.sub [0] rfl
  have hP : va_P (dC, dI) vwCl ([(m0, .inr (3, [.int 0, .ref m1, .int 0, .int 0, .ref m2, .ref m3, .ref m4, .null, .int 0, .int 0, .null, .int 0, .int 0, .int 0, .int 0, .int 0, .null, .null, .int 0, .null, .int 0, .int 0])), (m1, .inl (cA, 300, .inl (nA (fun _ => 0)))), (m2, .inl (cA, 64, .inl (nA (fun _ => 0)))), (m3, .inl (cA, 64, .inl (nA (fun _ => 0)))), (m4, .inl (cA, 64, .inl (nA (fun _ => 0)))), (m5, .inl (cA, 64, .inl (fun _ => 0)))]) H := hP
  have hD : va_D A ([(m0, .inr (3, [.int 0, .ref m1, .int 0, .int 0, .ref m2, .ref m3, .ref m4, .null, .int 0, .int 0, .null, .int 0, .int 0, .int 0, .int 0, .int 0, .null, .null, .int 0, .null, .int 0, .int 0])), (m1, .inl (cA, 300, .inl (nA (fun _ => 0)))), (m2, .inl (cA, 64, .inl (nA (fun _ => 0)))), (m3, .inl (cA, 64, .inl (nA (fun _ => 0)))), (m4, .inl (cA, 64, .inl (nA (fun _ => 0)))), (m5, .inl (cA, 64, .inl (fun _ => 0)))]) := hD
  refine W.widen (k := 5) (n := 556) (Nat.le_of_ble_eq_true rfl) (Nat.le_of_ble_eq_true rfl) ?_
  refine va_putF (D := (dC, dI)) (ci := 3) (v := .ref m5) (ty := .array .int) (C := RX4) (T := TX4) (N := 22) hx hb hts hinX4 tyX4 tyX4_ok nmX4 hown hK hP hD hS 0 rfl rfl 7 (by decide) hf_22 (fun _ h9 => h9) rfl hin rfl (by decide +kernel) rfl rfl (Nat.le_of_ble_eq_true rfl) dX4_init_42 (fun H locs hP hD hS => ?_)
  have hP : va_P (dC, dI) vwCl ([(m0, .inr (3, [.int 0, .ref m1, .int 0, .int 0, .ref m2, .ref m3, .ref m4, .ref m5, .int 0, .int 0, .null, .int 0, .int 0, .int 0, .int 0, .int 0, .null, .null, .int 0, .null, .int 0, .int 0])), (m1, .inl (cA, 300, .inl (nA (fun _ => 0)))), (m2, .inl (cA, 64, .inl (nA (fun _ => 0)))), (m3, .inl (cA, 64, .inl (nA (fun _ => 0)))), (m4, .inl (cA, 64, .inl (nA (fun _ => 0)))), (m5, .inl (cA, 64, .inl (fun _ => 0)))]) H := hP
  have hD : va_D A ([(m0, .inr (3, [.int 0, .ref m1, .int 0, .int 0, .ref m2, .ref m3, .ref m4, .ref m5, .int 0, .int 0, .null, .int 0, .int 0, .int 0, .int 0, .int 0, .null, .null, .int 0, .null, .int 0, .int 0])), (m1, .inl (cA, 300, .inl (nA (fun _ => 0)))), (m2, .inl (cA, 64, .inl (nA (fun _ => 0)))), (m3, .inl (cA, 64, .inl (nA (fun _ => 0)))), (m4, .inl (cA, 64, .inl (nA (fun _ => 0)))), (m5, .inl (cA, 64, .inl (fun _ => 0)))]) := hD
  refine lv_aload_n hx hb dX4_init_45 rfl (lv_at hl 0 rfl) ?_
  refine lv_iconst (v := (-1)) hx hb dX4_init_46 (by decide) ?_
  refine va_put (D := (dC, dI)) (ci := 3) (v := .int (-1)) (ty := .int) (C := RX4) (T := TX4) (N := 22) hx hb hts hinX4 tyX4 tyX4_ok nmX4 hown hK hP hD hS 0 rfl rfl 9 (by decide) hf_25 (fun _ h9 => h9) rfl (by decide +kernel) rfl rfl (Nat.le_of_ble_eq_true rfl) dX4_init_47 (fun H locs hP hD hS => ?_)
  have hP : va_P (dC, dI) vwCl ([(m0, .inr (3, [.int 0, .ref m1, .int 0, .int 0, .ref m2, .ref m3, .ref m4, .ref m5, .int 0, .int (-1), .null, .int 0, .int 0, .int 0, .int 0, .int 0, .null, .null, .int 0, .null, .int 0, .int 0])), (m1, .inl (cA, 300, .inl (nA (fun _ => 0)))), (m2, .inl (cA, 64, .inl (nA (fun _ => 0)))), (m3, .inl (cA, 64, .inl (nA (fun _ => 0)))), (m4, .inl (cA, 64, .inl (nA (fun _ => 0)))), (m5, .inl (cA, 64, .inl (fun _ => 0)))]) H := hP
  have hD : va_D A ([(m0, .inr (3, [.int 0, .ref m1, .int 0, .int 0, .ref m2, .ref m3, .ref m4, .ref m5, .int 0, .int (-1), .null, .int 0, .int 0, .int 0, .int 0, .int 0, .null, .null, .int 0, .null, .int 0, .int 0])), (m1, .inl (cA, 300, .inl (nA (fun _ => 0)))), (m2, .inl (cA, 64, .inl (nA (fun _ => 0)))), (m3, .inl (cA, 64, .inl (nA (fun _ => 0)))), (m4, .inl (cA, 64, .inl (nA (fun _ => 0)))), (m5, .inl (cA, 64, .inl (fun _ => 0)))]) := hD
  refine lv_aload_n hx hb dX4_init_50 rfl (lv_at hl 0 rfl) ?_
  refine lv_bipush (v := nI 17) hx hb dX4_init_51 (by decide) ?_
  refine va_newa (atype := .int) (ty := .int) hx hb (hts (.arrayClass .int) (by decide +kernel)) rfl hK hP hD hS hA (n := nI 17) (N' := 17) (a0 := (17, .inl (nA (fun _ => 0)))) (fun cB => z_cell cB 17) (by decide) (nI_clamp (by decide)) (Nat.le_of_ble_eq_true rfl) (Nat.le_of_ble_eq_true rfl) (Nat.le_of_ble_eq_true rfl) dX4_init_53 (fun m6 cB H hK hP hD hS => ?_)
  have hcB := one_cA hK
  subst hcB
  have hK : va_K (dC, dI) vwCl [(cA, .int)] s := hK.sub [0] rfl
  have hP : va_P (dC, dI) vwCl ([(m0, .inr (3, [.int 0, .ref m1, .int 0, .int 0, .ref m2, .ref m3, .ref m4, .ref m5, .int 0, .int (-1), .null, .int 0, .int 0, .int 0, .int 0, .int 0, .null, .null, .int 0, .null, .int 0, .int 0])), (m1, .inl (cA, 300, .inl (nA (fun _ => 0)))), (m2, .inl (cA, 64, .inl (nA (fun _ => 0)))), (m3, .inl (cA, 64, .inl (nA (fun _ => 0)))), (m4, .inl (cA, 64, .inl (nA (fun _ => 0)))), (m5, .inl (cA, 64, .inl (fun _ => 0))), (m6, .inl (cA, 17, .inl (nA (fun _ => 0))))]) H := hP
  have hD : va_D A ([(m0, .inr (3, [.int 0, .ref m1, .int 0, .int 0, .ref m2, .ref m3, .ref m4, .ref m5, .int 0, .int (-1), .null, .int 0, .int 0, .int 0, .int 0, .int 0, .null, .null, .int 0, .null, .int 0, .int 0])), (m1, .inl (cA, 300, .inl (nA (fun _ => 0)))), (m2, .inl (cA, 64, .inl (nA (fun _ => 0)))), (m3, .inl (cA, 64, .inl (nA (fun _ => 0)))), (m4, .inl (cA, 64, .inl (nA (fun _ => 0)))), (m5, .inl (cA, 64, .inl (fun _ => 0))), (m6, .inl (cA, 17, .inl (nA (fun _ => 0))))]) := hD
  refine W.widen (k := 6) (n := 573) (Nat.le_of_ble_eq_true rfl) (Nat.le_of_ble_eq_true rfl) ?_
  refine va_putF (D := (dC, dI)) (ci := 3) (v := .ref m6) (ty := .array .int) (C := RX4) (T := TX4) (N := 22) hx hb hts hinX4 tyX4 tyX4_ok nmX4 hown hK hP hD hS 0 rfl rfl 10 (by decide) hf_29 (fun _ h9 => h9) rfl hin rfl (by decide +kernel) rfl rfl (Nat.le_of_ble_eq_true rfl) dX4_init_55 (fun H locs hP hD hS => ?_)
  have hP : va_P (dC, dI) vwCl ([(m0, .inr (3, [.int 0, .ref m1, .int 0, .int 0, .ref m2, .ref m3, .ref m4, .ref m5, .int 0, .int (-1), .ref m6, .int 0, .int 0, .int 0, .int 0, .int 0, .null, .null, .int 0, .null, .int 0, .int 0])), (m1, .inl (cA, 300, .inl (nA (fun _ => 0)))), (m2, .inl (cA, 64, .inl (nA (fun _ => 0)))), (m3, .inl (cA, 64, .inl (nA (fun _ => 0)))), (m4, .inl (cA, 64, .inl (nA (fun _ => 0)))), (m5, .inl (cA, 64, .inl (fun _ => 0))), (m6, .inl (cA, 17, .inl (nA (fun _ => 0))))]) H := hP
  have hD : va_D A ([(m0, .inr (3, [.int 0, .ref m1, .int 0, .int 0, .ref m2, .ref m3, .ref m4, .ref m5, .int 0, .int (-1), .ref m6, .int 0, .int 0, .int 0, .int 0, .int 0, .null, .null, .int 0, .null, .int 0, .int 0])), (m1, .inl (cA, 300, .inl (nA (fun _ => 0)))), (m2, .inl (cA, 64, .inl (nA (fun _ => 0)))), (m3, .inl (cA, 64, .inl (nA (fun _ => 0)))), (m4, .inl (cA, 64, .inl (nA (fun _ => 0)))), (m5, .inl (cA, 64, .inl (fun _ => 0))), (m6, .inl (cA, 17, .inl (nA (fun _ => 0))))]) := hD
  refine lv_aload_n hx hb dX4_init_58 rfl (lv_at hl 0 rfl) ?_
  refine lv_sipush (v := nI 300) hx hb dX4_init_59 (by decide) ?_
  refine va_newa (atype := .int) (ty := .int) hx hb (hts (.arrayClass .int) (by decide +kernel)) rfl hK hP hD hS hA (n := nI 300) (N' := 300) (a0 := (300, .inl (nA (fun _ => 0)))) (fun cB => z_cell cB 300) (by decide) (nI_clamp (by decide)) (Nat.le_of_ble_eq_true rfl) (Nat.le_of_ble_eq_true rfl) (Nat.le_of_ble_eq_true rfl) dX4_init_62 (fun m7 cB H hK hP hD hS => ?_)
  have hcB := one_cA hK
  subst hcB
  have hK : va_K (dC, dI) vwCl [(cA, .int)] s := hK.sub [0] rfl
  have hP : va_P (dC, dI) vwCl ([(m0, .inr (3, [.int 0, .ref m1, .int 0, .int 0, .ref m2, .ref m3, .ref m4, .ref m5, .int 0, .int (-1), .ref m6, .int 0, .int 0, .int 0, .int 0, .int 0, .null, .null, .int 0, .null, .int 0, .int 0])), (m1, .inl (cA, 300, .inl (nA (fun _ => 0)))), (m2, .inl (cA, 64, .inl (nA (fun _ => 0)))), (m3, .inl (cA, 64, .inl (nA (fun _ => 0)))), (m4, .inl (cA, 64, .inl (nA (fun _ => 0)))), (m5, .inl (cA, 64, .inl (fun _ => 0))), (m6, .inl (cA, 17, .inl (nA (fun _ => 0)))), (m7, .inl (cA, 300, .inl (nA (fun _ => 0))))]) H := hP
  have hD : va_D A ([(m0, .inr (3, [.int 0, .ref m1, .int 0, .int 0, .ref m2, .ref m3, .ref m4, .ref m5, .int 0, .int (-1), .ref m6, .int 0, .int 0, .int 0, .int 0, .int 0, .null, .null, .int 0, .null, .int 0, .int 0])), (m1, .inl (cA, 300, .inl (nA (fun _ => 0)))), (m2, .inl (cA, 64, .inl (nA (fun _ => 0)))), (m3, .inl (cA, 64, .inl (nA (fun _ => 0)))), (m4, .inl (cA, 64, .inl (nA (fun _ => 0)))), (m5, .inl (cA, 64, .inl (fun _ => 0))), (m6, .inl (cA, 17, .inl (nA (fun _ => 0)))), (m7, .inl (cA, 300, .inl (nA (fun _ => 0))))]) := hD
  refine W.widen (k := 7) (n := 873) (Nat.le_of_ble_eq_true rfl) (Nat.le_of_ble_eq_true rfl) ?_
  refine va_putF (D := (dC, dI)) (ci := 3) (v := .ref m7) (ty := .array .int) (C := RX4) (T := TX4) (N := 22) hx hb hts hinX4 tyX4 tyX4_ok nmX4 hown hK hP hD hS 0 rfl rfl 16 (by decide) hf_32 (fun _ h9 => h9) rfl hin rfl (by decide +kernel) rfl rfl (Nat.le_of_ble_eq_true rfl) dX4_init_64 (fun H locs hP hD hS => ?_)
  have hP : va_P (dC, dI) vwCl ([(m0, .inr (3, [.int 0, .ref m1, .int 0, .int 0, .ref m2, .ref m3, .ref m4, .ref m5, .int 0, .int (-1), .ref m6, .int 0, .int 0, .int 0, .int 0, .int 0, .ref m7, .null, .int 0, .null, .int 0, .int 0])), (m1, .inl (cA, 300, .inl (nA (fun _ => 0)))), (m2, .inl (cA, 64, .inl (nA (fun _ => 0)))), (m3, .inl (cA, 64, .inl (nA (fun _ => 0)))), (m4, .inl (cA, 64, .inl (nA (fun _ => 0)))), (m5, .inl (cA, 64, .inl (fun _ => 0))), (m6, .inl (cA, 17, .inl (nA (fun _ => 0)))), (m7, .inl (cA, 300, .inl (nA (fun _ => 0))))]) H := hP
  have hD : va_D A ([(m0, .inr (3, [.int 0, .ref m1, .int 0, .int 0, .ref m2, .ref m3, .ref m4, .ref m5, .int 0, .int (-1), .ref m6, .int 0, .int 0, .int 0, .int 0, .int 0, .ref m7, .null, .int 0, .null, .int 0, .int 0])), (m1, .inl (cA, 300, .inl (nA (fun _ => 0)))), (m2, .inl (cA, 64, .inl (nA (fun _ => 0)))), (m3, .inl (cA, 64, .inl (nA (fun _ => 0)))), (m4, .inl (cA, 64, .inl (nA (fun _ => 0)))), (m5, .inl (cA, 64, .inl (fun _ => 0))), (m6, .inl (cA, 17, .inl (nA (fun _ => 0)))), (m7, .inl (cA, 300, .inl (nA (fun _ => 0))))]) := hD
  refine lv_aload_n hx hb dX4_init_67 rfl (lv_at hl 0 rfl) ?_
  refine lv_sipush (v := nI 300) hx hb dX4_init_68 (by decide) ?_
  refine va_newa (atype := .int) (ty := .int) hx hb (hts (.arrayClass .int) (by decide +kernel)) rfl hK hP hD hS hA (n := nI 300) (N' := 300) (a0 := (300, .inl (nA (fun _ => 0)))) (fun cB => z_cell cB 300) (by decide) (nI_clamp (by decide)) (Nat.le_of_ble_eq_true rfl) (Nat.le_of_ble_eq_true rfl) (Nat.le_of_ble_eq_true rfl) dX4_init_71 (fun m8 cB H hK hP hD hS => ?_)
  have hcB := one_cA hK
  subst hcB
  have hK : va_K (dC, dI) vwCl [(cA, .int)] s := hK.sub [0] rfl
  have hP : va_P (dC, dI) vwCl ([(m0, .inr (3, [.int 0, .ref m1, .int 0, .int 0, .ref m2, .ref m3, .ref m4, .ref m5, .int 0, .int (-1), .ref m6, .int 0, .int 0, .int 0, .int 0, .int 0, .ref m7, .null, .int 0, .null, .int 0, .int 0])), (m1, .inl (cA, 300, .inl (nA (fun _ => 0)))), (m2, .inl (cA, 64, .inl (nA (fun _ => 0)))), (m3, .inl (cA, 64, .inl (nA (fun _ => 0)))), (m4, .inl (cA, 64, .inl (nA (fun _ => 0)))), (m5, .inl (cA, 64, .inl (fun _ => 0))), (m6, .inl (cA, 17, .inl (nA (fun _ => 0)))), (m7, .inl (cA, 300, .inl (nA (fun _ => 0)))), (m8, .inl (cA, 300, .inl (nA (fun _ => 0))))]) H := hP
  have hD : va_D A ([(m0, .inr (3, [.int 0, .ref m1, .int 0, .int 0, .ref m2, .ref m3, .ref m4, .ref m5, .int 0, .int (-1), .ref m6, .int 0, .int 0, .int 0, .int 0, .int 0, .ref m7, .null, .int 0, .null, .int 0, .int 0])), (m1, .inl (cA, 300, .inl (nA (fun _ => 0)))), (m2, .inl (cA, 64, .inl (nA (fun _ => 0)))), (m3, .inl (cA, 64, .inl (nA (fun _ => 0)))), (m4, .inl (cA, 64, .inl (nA (fun _ => 0)))), (m5, .inl (cA, 64, .inl (fun _ => 0))), (m6, .inl (cA, 17, .inl (nA (fun _ => 0)))), (m7, .inl (cA, 300, .inl (nA (fun _ => 0)))), (m8, .inl (cA, 300, .inl (nA (fun _ => 0))))]) := hD
  refine W.widen (k := 8) (n := 1173) (Nat.le_of_ble_eq_true rfl) (Nat.le_of_ble_eq_true rfl) ?_
  refine va_putF (D := (dC, dI)) (ci := 3) (v := .ref m8) (ty := .array .int) (C := RX4) (T := TX4) (N := 22) hx hb hts hinX4 tyX4 tyX4_ok nmX4 hown hK hP hD hS 0 rfl rfl 17 (by decide) hf_35 (fun _ h9 => h9) rfl hin rfl (by decide +kernel) rfl rfl (Nat.le_of_ble_eq_true rfl) dX4_init_73 (fun H locs hP hD hS => ?_)
  have hP : va_P (dC, dI) vwCl ([(m0, .inr (3, [.int 0, .ref m1, .int 0, .int 0, .ref m2, .ref m3, .ref m4, .ref m5, .int 0, .int (-1), .ref m6, .int 0, .int 0, .int 0, .int 0, .int 0, .ref m7, .ref m8, .int 0, .null, .int 0, .int 0])), (m1, .inl (cA, 300, .inl (nA (fun _ => 0)))), (m2, .inl (cA, 64, .inl (nA (fun _ => 0)))), (m3, .inl (cA, 64, .inl (nA (fun _ => 0)))), (m4, .inl (cA, 64, .inl (nA (fun _ => 0)))), (m5, .inl (cA, 64, .inl (fun _ => 0))), (m6, .inl (cA, 17, .inl (nA (fun _ => 0)))), (m7, .inl (cA, 300, .inl (nA (fun _ => 0)))), (m8, .inl (cA, 300, .inl (nA (fun _ => 0))))]) H := hP
  have hD : va_D A ([(m0, .inr (3, [.int 0, .ref m1, .int 0, .int 0, .ref m2, .ref m3, .ref m4, .ref m5, .int 0, .int (-1), .ref m6, .int 0, .int 0, .int 0, .int 0, .int 0, .ref m7, .ref m8, .int 0, .null, .int 0, .int 0])), (m1, .inl (cA, 300, .inl (nA (fun _ => 0)))), (m2, .inl (cA, 64, .inl (nA (fun _ => 0)))), (m3, .inl (cA, 64, .inl (nA (fun _ => 0)))), (m4, .inl (cA, 64, .inl (nA (fun _ => 0)))), (m5, .inl (cA, 64, .inl (fun _ => 0))), (m6, .inl (cA, 17, .inl (nA (fun _ => 0)))), (m7, .inl (cA, 300, .inl (nA (fun _ => 0)))), (m8, .inl (cA, 300, .inl (nA (fun _ => 0))))]) := hD
  refine lv_aload_n hx hb dX4_init_76 rfl (lv_at hl 0 rfl) ?_
  refine lv_bipush (v := nI 16) hx hb dX4_init_77 (by decide) ?_
  refine va_newa (atype := .int) (ty := .int) hx hb (hts (.arrayClass .int) (by decide +kernel)) rfl hK hP hD hS hA (n := nI 16) (N' := 16) (a0 := (16, .inl (nA (fun _ => 0)))) (fun cB => z_cell cB 16) (by decide) (nI_clamp (by decide)) (Nat.le_of_ble_eq_true rfl) (Nat.le_of_ble_eq_true rfl) (Nat.le_of_ble_eq_true rfl) dX4_init_79 (fun m9 cB H hK hP hD hS => ?_)
  have hcB := one_cA hK
  subst hcB
  have hK : va_K (dC, dI) vwCl [(cA, .int)] s := hK.sub [0] rfl
  have hP : va_P (dC, dI) vwCl ([(m0, .inr (3, [.int 0, .ref m1, .int 0, .int 0, .ref m2, .ref m3, .ref m4, .ref m5, .int 0, .int (-1), .ref m6, .int 0, .int 0, .int 0, .int 0, .int 0, .ref m7, .ref m8, .int 0, .null, .int 0, .int 0])), (m1, .inl (cA, 300, .inl (nA (fun _ => 0)))), (m2, .inl (cA, 64, .inl (nA (fun _ => 0)))), (m3, .inl (cA, 64, .inl (nA (fun _ => 0)))), (m4, .inl (cA, 64, .inl (nA (fun _ => 0)))), (m5, .inl (cA, 64, .inl (fun _ => 0))), (m6, .inl (cA, 17, .inl (nA (fun _ => 0)))), (m7, .inl (cA, 300, .inl (nA (fun _ => 0)))), (m8, .inl (cA, 300, .inl (nA (fun _ => 0)))), (m9, .inl (cA, 16, .inl (nA (fun _ => 0))))]) H := hP
  have hD : va_D A ([(m0, .inr (3, [.int 0, .ref m1, .int 0, .int 0, .ref m2, .ref m3, .ref m4, .ref m5, .int 0, .int (-1), .ref m6, .int 0, .int 0, .int 0, .int 0, .int 0, .ref m7, .ref m8, .int 0, .null, .int 0, .int 0])), (m1, .inl (cA, 300, .inl (nA (fun _ => 0)))), (m2, .inl (cA, 64, .inl (nA (fun _ => 0)))), (m3, .inl (cA, 64, .inl (nA (fun _ => 0)))), (m4, .inl (cA, 64, .inl (nA (fun _ => 0)))), (m5, .inl (cA, 64, .inl (fun _ => 0))), (m6, .inl (cA, 17, .inl (nA (fun _ => 0)))), (m7, .inl (cA, 300, .inl (nA (fun _ => 0)))), (m8, .inl (cA, 300, .inl (nA (fun _ => 0)))), (m9, .inl (cA, 16, .inl (nA (fun _ => 0))))]) := hD
  refine W.widen (k := 9) (n := 1189) (Nat.le_of_ble_eq_true rfl) (Nat.le_of_ble_eq_true rfl) ?_
  refine va_putF (D := (dC, dI)) (ci := 3) (v := .ref m9) (ty := .array .int) (C := RX4) (T := TX4) (N := 22) hx hb hts hinX4 tyX4 tyX4_ok nmX4 hown hK hP hD hS 0 rfl rfl 19 (by decide) hf_38 (fun _ h9 => h9) rfl hin rfl (by decide +kernel) rfl rfl (Nat.le_of_ble_eq_true rfl) dX4_init_81 (fun H locs hP hD hS => ?_)
  have hP : va_P (dC, dI) vwCl ([(m0, .inr (3, [.int 0, .ref m1, .int 0, .int 0, .ref m2, .ref m3, .ref m4, .ref m5, .int 0, .int (-1), .ref m6, .int 0, .int 0, .int 0, .int 0, .int 0, .ref m7, .ref m8, .int 0, .ref m9, .int 0, .int 0])), (m1, .inl (cA, 300, .inl (nA (fun _ => 0)))), (m2, .inl (cA, 64, .inl (nA (fun _ => 0)))), (m3, .inl (cA, 64, .inl (nA (fun _ => 0)))), (m4, .inl (cA, 64, .inl (nA (fun _ => 0)))), (m5, .inl (cA, 64, .inl (fun _ => 0))), (m6, .inl (cA, 17, .inl (nA (fun _ => 0)))), (m7, .inl (cA, 300, .inl (nA (fun _ => 0)))), (m8, .inl (cA, 300, .inl (nA (fun _ => 0)))), (m9, .inl (cA, 16, .inl (nA (fun _ => 0))))]) H := hP
  have hD : va_D A ([(m0, .inr (3, [.int 0, .ref m1, .int 0, .int 0, .ref m2, .ref m3, .ref m4, .ref m5, .int 0, .int (-1), .ref m6, .int 0, .int 0, .int 0, .int 0, .int 0, .ref m7, .ref m8, .int 0, .ref m9, .int 0, .int 0])), (m1, .inl (cA, 300, .inl (nA (fun _ => 0)))), (m2, .inl (cA, 64, .inl (nA (fun _ => 0)))), (m3, .inl (cA, 64, .inl (nA (fun _ => 0)))), (m4, .inl (cA, 64, .inl (nA (fun _ => 0)))), (m5, .inl (cA, 64, .inl (fun _ => 0))), (m6, .inl (cA, 17, .inl (nA (fun _ => 0)))), (m7, .inl (cA, 300, .inl (nA (fun _ => 0)))), (m8, .inl (cA, 300, .inl (nA (fun _ => 0)))), (m9, .inl (cA, 16, .inl (nA (fun _ => 0))))]) := hD
  have hP9 : va_P (dC, dI) vwCl (vX4_init cA m0 (m1, m2, m3, m4, m5, m6, m7, m8, m9)) _ := hP.sub [0, 1, 2, 3, 4, 5, 6, 7, 8, 9] rfl
  have hD9 : va_D A (vX4_init cA m0 (m1, m2, m3, m4, m5, m6, m7, m8, m9)) := hD.sub [0, 1, 2, 3, 4, 5, 6, 7, 8, 9] (by decide) rfl
  exact W.vret hx hb hr (fun t ht hW => ⟨⟨(m1, m2, m3, m4, m5, m6, m7, m8, m9), rfl, trivial, by rw [ht]; exact hP9, va_K.moved hW.alike hK, hD9⟩, hS.F ht⟩) hS.2.2 dX4_init_84
