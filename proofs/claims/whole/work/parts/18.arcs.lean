abbrev pX0_firstArcOf (t : Nat) : Int32 → Unit → Prop := fun (r : Int32) (u : Unit) => r = nI (fst1 t)
abbrev vX0_firstArcOf (cA : ClassId) (t : Nat) : Unit → va_W := fun (u : Unit) => []
abbrev qX0_firstArcOf (dC : Nat → ClassId) (dI : Nat → Nat → Nat) (cA : ClassId) (A : Nat → Prop) (t : Nat) : Array Value → State → Outcome → State → Prop := va_Qi (pX0_firstArcOf t) (fun u => cAft dC dI cA A (vX0_firstArcOf cA t u)) A
set_option maxHeartbeats 4000000 in
set_option maxRecDepth 100000 in
theorem k_X0_firstArcOf (l : Launch) (dC : Nat → ClassId) (dI : Nat → Nat → Nat) (cA : ClassId) (t : Nat) (sz : Nat) (ht : t < 2 ^ 62) : Met l yX0_firstArcOf wsX0_firstArcOf ({ frames := 0, cells := 0, slots := 0, locals := 0 } : Room) (va_Pc [.long (lN t)] (cPre dC dI cA ([]) sz)) (qX0_firstArcOf dC dI cA (va_A ([]) sz) t) 0 0 (va_A ([]) sz) := by
  refine Met.ofW (cc := cX0_firstArcOf) (maxL := 2) (ret := (some .int)) (by decide) rfl ?_
  intro p e s m args below meth c s₁ B hml hv
  obtain ⟨rfl, hsz, hP, hK, hD0⟩ := hv
  have hx := B.exec
  have hb := B.bytes
  have hr := B.returns
  have hts := atoms_spec (ws := wsX0_firstArcOf) B.pre
  have hown : s.vm.findClass RX0 = some m.cls := findClass_of_methodNamed B.named
  have hlocks := B.notSynchronized
  subst hsz
  have hD := hD0.self (sz := s.heap.size)
  generalize hAe : va_A ([]) s.heap.size = A at hD ⊢
  have hA : ∀ q : Nat, s.heap.size ≤ q → A q := fun q h => by rw [← hAe]; exact Or.inr h
  have hS : va_S A s.heap s.heap [] := va_S.rf
  have hl := lv_entry ([.long (lN t)]) (n := 2) (Nat.le_of_ble_eq_true rfl)
  rw [lg_entry_eq]
  generalize (lg_sl ([.long (lN t)]) ++ List.replicate (2 - (lg_sl ([.long (lN t)])).length) Slot.unset).toArray = ls at hl ⊢
  have hl : lv_has ls 2 [(0, .long (lN t))] := hl
  have hP : va_P (dC, dI) vwCl ([]) s.heap := hP
  refine lv_lload_n hx hb dX0_firstArcOf_0 rfl (lv_at hl 0 rfl) ?_
  refine lv_ldc2 (v := 40) hx hb hown (hts (.constantLong RX0 115 (40)) (by decide +kernel)) dX0_firstArcOf_1 ?_
  rw [show (40 : Int64) = lN 40 from rfl]
  refine W.lcmp hx hb dX0_firstArcOf_4 ?_
  refine lv_if_ge (tgt := 10) hx hb dX0_firstArcOf_5 (by decide) (fun c_1 => ?_) (fun c_1 => ?_)
  · have c_1 := lge_t (by omega) (by omega) c_1
    refine lv_lload_n hx hb dX0_firstArcOf_10 rfl (lv_at hl 0 rfl) ?_
    refine lv_ldc2 (v := 80) hx hb hown (hts (.constantLong RX0 117 (80)) (by decide +kernel)) dX0_firstArcOf_11 ?_
    rw [show (80 : Int64) = lN 80 from rfl]
    refine W.lcmp hx hb dX0_firstArcOf_14 ?_
    refine lv_if_ge (tgt := 22) hx hb dX0_firstArcOf_15 (by decide) (fun c_2 => ?_) (fun c_2 => ?_)
    · have c_2 := lge_t (by omega) (by omega) c_2
      refine lv_iconst (v := nI 2) hx hb dX0_firstArcOf_22 (by decide) ?_
      have hP9 : va_P (dC, dI) vwCl (vX0_firstArcOf cA t ()) _ := hP
      have hD9 : va_D A (vX0_firstArcOf cA t ()) := hD
      have hq9 : pX0_firstArcOf t (nI 2) () := congrArg nI (by unfold fst1; (repeat' split) <;> omega)
      exact W.iret (v := nI 2) hx hb hr (fun t ht hW => ⟨⟨nI 2, (), rfl, hq9, by rw [ht]; exact hP9, va_K.moved hW.alike hK, hD9⟩, hS.F ht⟩) hS.2.2 dX0_firstArcOf_23
    · have c_2 := lge_f (by omega) (by omega) c_2
      refine lv_iconst (v := nI 1) hx hb dX0_firstArcOf_18 (by decide) ?_
      refine lv_goto (tgt := 23) hx hb dX0_firstArcOf_19 (by decide) ?_
      have hP9 : va_P (dC, dI) vwCl (vX0_firstArcOf cA t ()) _ := hP
      have hD9 : va_D A (vX0_firstArcOf cA t ()) := hD
      have hq9 : pX0_firstArcOf t (nI 1) () := congrArg nI (by unfold fst1; (repeat' split) <;> omega)
      exact W.iret (v := nI 1) hx hb hr (fun t ht hW => ⟨⟨nI 1, (), rfl, hq9, by rw [ht]; exact hP9, va_K.moved hW.alike hK, hD9⟩, hS.F ht⟩) hS.2.2 dX0_firstArcOf_23
  · have c_1 := lge_f (by omega) (by omega) c_1
    refine lv_iconst (v := nI 0) hx hb dX0_firstArcOf_8 (by decide) ?_
    have hP9 : va_P (dC, dI) vwCl (vX0_firstArcOf cA t ()) _ := hP
    have hD9 : va_D A (vX0_firstArcOf cA t ()) := hD
    have hq9 : pX0_firstArcOf t (nI 0) () := congrArg nI (by unfold fst1; (repeat' split) <;> omega)
    exact W.iret (v := nI 0) hx hb hr (fun t ht hW => ⟨⟨nI 0, (), rfl, hq9, by rw [ht]; exact hP9, va_K.moved hW.alike hK, hD9⟩, hS.F ht⟩) hS.2.2 dX0_firstArcOf_9
abbrev pX0_partOf (r0 : Nat) (r1 : Nat) (r2 : Nat) (r3 : Nat) (r4 : Nat) (r5 : Nat) (r6 : Nat) (row : Nat → Nat) (rs : Nat) (tg : Nat → Nat) (st : Nat → Nat) (ln : Nat → Nat) (pa : Nat → Int32) (nd : Nat) (ar : Nat → Nat) (lv : Nat) (of : Int32) (nod : Nat) (idx : Nat) : Int64 → Unit → Prop := fun (r : Int64) (u : Unit) => r = capL (partS row (st nod + ln nod) (ln nod) 0 0 idx)
abbrev vX0_partOf (cA : ClassId) (r0 : Nat) (r1 : Nat) (r2 : Nat) (r3 : Nat) (r4 : Nat) (r5 : Nat) (r6 : Nat) (row : Nat → Nat) (rs : Nat) (tg : Nat → Nat) (st : Nat → Nat) (ln : Nat → Nat) (pa : Nat → Int32) (nd : Nat) (ar : Nat → Nat) (lv : Nat) (of : Int32) (nod : Nat) (idx : Nat) : Unit → va_W := fun (u : Unit) => wR cA r0 r1 r2 r3 r4 r5 r6 row rs tg st ln pa nd ar lv of
abbrev qX0_partOf (dC : Nat → ClassId) (dI : Nat → Nat → Nat) (cA : ClassId) (A : Nat → Prop) (r0 : Nat) (r1 : Nat) (r2 : Nat) (r3 : Nat) (r4 : Nat) (r5 : Nat) (r6 : Nat) (row : Nat → Nat) (rs : Nat) (tg : Nat → Nat) (st : Nat → Nat) (ln : Nat → Nat) (pa : Nat → Int32) (nd : Nat) (ar : Nat → Nat) (lv : Nat) (of : Int32) (nod : Nat) (idx : Nat) : Array Value → State → Outcome → State → Prop := va_Ql (pX0_partOf r0 r1 r2 r3 r4 r5 r6 row rs tg st ln pa nd ar lv of nod idx) (fun u => cAft dC dI cA A (vX0_partOf cA r0 r1 r2 r3 r4 r5 r6 row rs tg st ln pa nd ar lv of nod idx u)) A
set_option maxHeartbeats 4000000 in
set_option maxRecDepth 100000 in
theorem k_X0_partOf (l : Launch) (dC : Nat → ClassId) (dI : Nat → Nat → Nat) (cA : ClassId) (r0 : Nat) (r1 : Nat) (r2 : Nat) (r3 : Nat) (r4 : Nat) (r5 : Nat) (r6 : Nat) (row : Nat → Nat) (rs : Nat) (tg : Nat → Nat) (st : Nat → Nat) (ln : Nat → Nat) (pa : Nat → Int32) (nd : Nat) (ar : Nat → Nat) (lv : Nat) (of : Int32) (nod : Nat) (idx : Nat) (sz : Nat) (hrow : ∀ j, row j < 256) (hn1 : nod < 64) (hse : st nod + ln nod ≤ 300) (hidx : idx < 2 ^ 31) : Met l yX0_partOf wsX0_partOf ({ frames := 1, cells := 0, slots := 0, locals := 23 } : Room) (va_Pc [.ref r0, .int (nI nod), .int (nI idx)] (cPre dC dI cA (wR cA r0 r1 r2 r3 r4 r5 r6 row rs tg st ln pa nd ar lv of) sz)) (qX0_partOf dC dI cA (va_A (wR cA r0 r1 r2 r3 r4 r5 r6 row rs tg st ln pa nd ar lv of) sz) r0 r1 r2 r3 r4 r5 r6 row rs tg st ln pa nd ar lv of nod idx) 0 0 (va_A (wR cA r0 r1 r2 r3 r4 r5 r6 row rs tg st ln pa nd ar lv of) sz) := by
  refine Met.ofW (cc := cX0_partOf) (maxL := 7) (ret := (some .long)) (by decide) rfl ?_
  intro p e s m args below meth c s₁ B hml hv
  obtain ⟨rfl, hsz, hP, hK, hD0⟩ := hv
  have hx := B.exec
  have hb := B.bytes
  have hr := B.returns
  have hts := atoms_spec (ws := wsX0_partOf) B.pre
  have hown : s.vm.findClass RX0 = some m.cls := findClass_of_methodNamed B.named
  have hlocks := B.notSynchronized
  subst hsz
  have hD := hD0.self (sz := s.heap.size)
  generalize hAe : va_A (wR cA r0 r1 r2 r3 r4 r5 r6 row rs tg st ln pa nd ar lv of) s.heap.size = A at hD ⊢
  have hA : ∀ q : Nat, s.heap.size ≤ q → A q := fun q h => by rw [← hAe]; exact Or.inr h
  have hS : va_S A s.heap s.heap [] := va_S.rf
  have hl := lv_entry ([.ref r0, .int (nI nod), .int (nI idx)]) (n := 7) (Nat.le_of_ble_eq_true rfl)
  rw [lg_entry_eq]
  generalize (lg_sl ([.ref r0, .int (nI nod), .int (nI idx)]) ++ List.replicate (7 - (lg_sl ([.ref r0, .int (nI nod), .int (nI idx)])).length) Slot.unset).toArray = ls at hl ⊢
  have hl : lv_has ls 7 [(0, .ref r0), (1, .int (nI nod)), (2, .int (nI idx))] := hl
  have hinX0 : ∀ w ∈ wsX00, w ∈ wsX0_partOf := fun _ h => List.mem_cons_of_mem _ (List.mem_append_right _ h)
  have hf_9 := hts (.fieldLink RX0 9 "DerDesk$Reader" "row" "[I") (by decide +kernel)
  have hf_22 := hts (.fieldLink RX0 22 "DerDesk$Reader" "starts" "[I") (by decide +kernel)
  have hP : va_P (dC, dI) vwCl (wR cA r0 r1 r2 r3 r4 r5 r6 row rs tg st ln pa nd ar lv of) s.heap := hP
  refine lv_iconst (v := nI 0) hx hb dX0_partOf_0 (by decide) ?_
  refine lv_istore_n (lv' := [(3, .int (nI 0)), (0, .ref r0), (1, .int (nI nod)), (2, .int (nI idx))]) hx hb dX0_partOf_1 rfl hl (by decide) rfl (fun ls hl => ?_)
  refine lv_lconst (v := lN 0) hx hb dX0_partOf_2 (by decide) ?_
  refine lv_lstore (lv' := [(4, .long (lN 0)), (3, .int (nI 0)), (0, .ref r0), (1, .int (nI nod)), (2, .int (nI idx))]) hx hb dX0_partOf_3 hl (by decide) rfl (fun ls hl => ?_)
  refine lv_aload_n hx hb dX0_partOf_5 rfl (lv_at hl 2 rfl) ?_
  refine va_get (D := (dC, dI)) (ci := 0) (v := .ref r3) (C := RX0) (T := TX0) (N := 10) hx hb hts hinX0 hown hK hP 0 rfl rfl 3 (by decide) hf_22 (fun _ h9 => h9) rfl dX0_partOf_6 ?_
  refine lv_iload_n hx hb dX0_partOf_9 rfl (lv_at hl 3 rfl) ?_
  refine hl_iald hx hb hK hP 3 0 rfl rfl (by omega) (by decide) dX0_partOf_10 ?_
  refine lv_istore (lv' := [(6, .int (nI (st nod))), (4, .long (lN 0)), (3, .int (nI 0)), (0, .ref r0), (1, .int (nI nod)), (2, .int (nI idx))]) hx hb dX0_partOf_11 hl (by decide) rfl (fun ls hl => ?_)
  have lp_13 : ∀ (nf : Nat) (i : Nat) (cn : Nat) (pt : Nat) (cu : Nat), st nod + ln nod - i < nf → (i ≤ st nod + ln nod) → (cn ≤ i) → (pt = min cu 1099511627776) → (partS row (st nod + ln nod) (st nod + ln nod - i) cu cn idx = partS row (st nod + ln nod) (ln nod) 0 0 idx) → ∀ (H : Heap) (locs : List Loc) (ls : Array Slot), va_P (dC, dI) vwCl (wR cA r0 r1 r2 r3 r4 r5 r6 row rs tg st ln pa nd ar lv of) H → va_D A (wR cA r0 r1 r2 r3 r4 r5 r6 row rs tg st ln pa nd ar lv of) → va_S A s.heap H locs → lv_has ls 7 [(6, .int (nI i)), (4, .long (lN pt)), (3, .int (nI cn)), (0, .ref r0), (1, .int (nI nod)), (2, .int (nI idx))] → W p l e (headSpec wsX0_partOf ({ frames := 1, cells := 0, slots := 0, locals := 23 } : Room)).room s m ([.ref r0, .int (nI nod), .int (nI idx)] : List Value).toArray below meth c H locs 0 0 (MQ below (qX0_partOf dC dI cA A r0 r1 r2 r3 r4 r5 r6 row rs tg st ln pa nd ar lv of nod idx) ([.ref r0, .int (nI nod), .int (nI idx)] : List Value).toArray s 0 0 A) (F0 m 13 ls []) := by
    intro nf
    induction nf with
    | zero =>
      intro i cn pt cu hm
      exact absurd hm (Nat.not_lt_zero _)
    | succ nf ih_13 =>
      intro i cn pt cu hm hi hcn hpt hinv H locs ls hP hD hS hl
      refine lv_iload hx hb dX0_partOf_13 (lv_at hl 0 rfl) ?_
      refine lv_aload_n hx hb dX0_partOf_15 rfl (lv_at hl 3 rfl) ?_
      refine lv_iload_n hx hb dX0_partOf_16 rfl (lv_at hl 4 rfl) ?_
      refine cl_Vi (As := [.int (nI nod)]) (rest := [.int (nI i)]) (wr := []) ⟨hx, hb, hml, hown, hts⟩ (k_X0_endOf l dC dI cA r0 r1 r2 r3 r4 r5 r6 row rs tg st ln pa nd ar lv of nod _ (by omega)) (cwV 1 hts gX0_partOf_X0_endOf rfl rfl rfl (by decide +kernel) ⟨Nat.le_of_ble_eq_true rfl, Nat.le_of_ble_eq_true rfl⟩) hK hP hD hS hA [0, 1, 2, 3, 4, 5, 6] [] rfl rfl (by decide) (by decide) (by decide) (ci := 0) (q0 := 0) rfl rfl rfl rfl hl.1 rfl (Nat.le_of_ble_eq_true rfl) dX0_partOf_17 ⟨Nat.le_of_ble_eq_true rfl, Nat.le_of_ble_eq_true rfl⟩ (fun r_2 u_2 H locs hw_2 hP hD hS => ?_)
      have hP : va_P (dC, dI) vwCl (wR cA r0 r1 r2 r3 r4 r5 r6 row rs tg st ln pa nd ar lv of) H := hP
      have hD : va_D A (wR cA r0 r1 r2 r3 r4 r5 r6 row rs tg st ln pa nd ar lv of) := hD
      have hw_2 : r_2 = nI (st nod + ln nod) := hw_2
      have hw_2 := hw_2.symm
      subst hw_2
      refine hl_icmp_ge (tgt := 81) hx hb dX0_partOf_20 (by decide) (by omega) (by omega) (fun c_3 => ?_) (fun c_3 => ?_)
      · refine lv_ldc2 (v := (-1)) hx hb hown (hts (.constantLong RX0 127 (-1)) (by decide +kernel)) dX0_partOf_81 ?_
        have hP9 : va_P (dC, dI) vwCl (vX0_partOf cA r0 r1 r2 r3 r4 r5 r6 row rs tg st ln pa nd ar lv of nod idx ()) _ := hP
        have hD9 : va_D A (vX0_partOf cA r0 r1 r2 r3 r4 r5 r6 row rs tg st ln pa nd ar lv of nod idx ()) := hD
        have hq9 : pX0_partOf r0 r1 r2 r3 r4 r5 r6 row rs tg st ln pa nd ar lv of nod idx ((-1)) () := by show _ = capL _; rw [← hinv, show st nod + ln nod - i = 0 by omega]; rfl
        exact W.lret (v := (-1)) hx hb hr (fun t ht hW => ⟨⟨(-1), (), rfl, hq9, by rw [ht]; exact hP9, va_K.moved hW.alike hK, hD9⟩, hS.F ht⟩) hS.2.2 dX0_partOf_84
      · refine lv_lload hx hb dX0_partOf_23 (lv_at hl 1 rfl) ?_
        refine lv_bipush (v := nI 7) hx hb dX0_partOf_25 (by decide) ?_
        refine lv_lshl (v := lN pt <<< ((nI 7).toInt64 &&& 63)) hx hb dX0_partOf_27 rfl ?_
        refine lv_aload_n hx hb dX0_partOf_28 rfl (lv_at hl 3 rfl) ?_
        refine va_get (D := (dC, dI)) (ci := 0) (v := .ref r1) (C := RX0) (T := TX0) (N := 10) hx hb hts hinX0 hown hK hP 0 rfl rfl 0 (by decide) hf_9 (fun _ h9 => h9) rfl dX0_partOf_29 ?_
        refine lv_iload hx hb dX0_partOf_32 (lv_at hl 0 rfl) ?_
        refine hl_iald hx hb hK hP 1 0 rfl rfl (by omega) (by decide) dX0_partOf_34 ?_
        have hv_4 := hrow i
        refine lv_bipush (v := nI 127) hx hb dX0_partOf_35 (by decide) ?_
        refine lv_iand hx hb dX0_partOf_37 ?_
        refine lv_i2l (v := ((nI (row i) &&& nI 127)).toInt64) hx hb dX0_partOf_38 rfl ?_
        refine lv_lor hx hb dX0_partOf_39 ?_
        refine lv_ldc2 (v := 1099511627776) hx hb hown (hts (.constantLong RX0 119 (1099511627776)) (by decide +kernel)) dX0_partOf_40 ?_
        rw [show (1099511627776 : Int64) = lN 1099511627776 from rfl]
        refine va_mmin_long hx hb (by rw [hml]; exact hl.1.symm) hown (hts (.methodLink RX0 121 Lib.MathLoose.min_long.x) (by decide +kernel)) (hts (.static Lib.MathLoose.min_long.x) (by decide +kernel)) (hts (.initialized "java/lang/Math") (by decide +kernel)) (hts (.code Lib.MathLoose.min_long.x Lib.MathLoose.min_long.code 4 (some .long)) (by decide +kernel)) (Nat.le_of_ble_eq_true rfl) (Nat.le_of_ble_eq_true rfl) (Nat.le_of_ble_eq_true rfl) (Nat.le_of_ble_eq_true rfl) dX0_partOf_43 ?_
        have hp40 : pt ≤ 1099511627776 := by rw [hpt]; exact Nat.min_le_right _ _
        refine hl_topl (part_step hp40 (hrow i)) ?_
        refine lv_lstore (lv' := [(4, .long (lN (min (pt * 128 + row i % 128) 1099511627776))), (6, .int (nI i)), (3, .int (nI cn)), (0, .ref r0), (1, .int (nI nod)), (2, .int (nI idx))]) hx hb dX0_partOf_46 hl (by decide) rfl (fun ls hl => ?_)
        refine lv_aload_n hx hb dX0_partOf_48 rfl (lv_at hl 3 rfl) ?_
        refine va_get (D := (dC, dI)) (ci := 0) (v := .ref r1) (C := RX0) (T := TX0) (N := 10) hx hb hts hinX0 hown hK hP 0 rfl rfl 0 (by decide) hf_9 (fun _ h9 => h9) rfl dX0_partOf_49 ?_
        refine lv_iload hx hb dX0_partOf_52 (lv_at hl 1 rfl) ?_
        refine hl_iald hx hb hK hP 1 0 rfl rfl (by omega) (by decide) dX0_partOf_54 ?_
        have hv_5 := hrow i
        refine lv_sipush (v := nI 128) hx hb dX0_partOf_55 (by decide) ?_
        refine hl_icmp_ge (tgt := 75) hx hb dX0_partOf_58 (by decide) (by omega) (by omega) (fun c_6 => ?_) (fun c_6 => ?_)
        · refine lv_iinc (v := (nI (i + 1))) (lv' := [(6, .int (nI (i + 1))), (4, .long (lN (min (pt * 128 + row i % 128) 1099511627776))), (3, .int (nI cn)), (0, .ref r0), (1, .int (nI nod)), (2, .int (nI idx))]) hx hb dX0_partOf_75 hl (k := 1) rfl (nI_inc i 1) (by decide) rfl (fun ls hl => ?_)
          refine lv_goto (tgt := 13) hx hb dX0_partOf_78 (by decide) ?_
          exact ih_13 (i + 1) cn (min (pt * 128 + row i % 128) 1099511627776) (cu * 128 + row i % 128) (by omega) (by omega) (by omega) (by first | rfl | (rw [hpt]; exact min_cap _ _)) (by rw [← hinv, partS_at (i := i) (by omega)]; first | rw [if_pos (by omega), if_neg (by assumption)] | rw [if_neg (by omega)]) _ _ _ hP hD hS (lv_sub hl [0, 1, 2, 3, 4, 5] rfl)
        · refine lv_iload_n hx hb dX0_partOf_61 rfl (lv_at hl 2 rfl) ?_
          refine lv_iload_n hx hb dX0_partOf_62 rfl (lv_at hl 5 rfl) ?_
          refine hl_icmp_ne (tgt := 69) hx hb dX0_partOf_63 (by decide) (by omega) (by omega) (fun c_7 => ?_) (fun c_7 => ?_)
          · refine lv_iinc (v := (nI (cn + 1))) (lv' := [(3, .int (nI (cn + 1))), (4, .long (lN (min (pt * 128 + row i % 128) 1099511627776))), (6, .int (nI i)), (0, .ref r0), (1, .int (nI nod)), (2, .int (nI idx))]) hx hb dX0_partOf_69 hl (k := 2) rfl (nI_inc cn 1) (by decide) rfl (fun ls hl => ?_)
            refine lv_lconst (v := lN 0) hx hb dX0_partOf_72 (by decide) ?_
            refine lv_lstore (lv' := [(4, .long (lN 0)), (3, .int (nI (cn + 1))), (6, .int (nI i)), (0, .ref r0), (1, .int (nI nod)), (2, .int (nI idx))]) hx hb dX0_partOf_73 hl (by decide) rfl (fun ls hl => ?_)
            refine lv_iinc (v := (nI (i + 1))) (lv' := [(6, .int (nI (i + 1))), (4, .long (lN 0)), (3, .int (nI (cn + 1))), (0, .ref r0), (1, .int (nI nod)), (2, .int (nI idx))]) hx hb dX0_partOf_75 hl (k := 2) rfl (nI_inc i 1) (by decide) rfl (fun ls hl => ?_)
            refine lv_goto (tgt := 13) hx hb dX0_partOf_78 (by decide) ?_
            exact ih_13 (i + 1) (cn + 1) 0 0 (by omega) (by omega) (by omega) (by first | rfl | (rw [hpt]; exact min_cap _ _)) (by rw [← hinv, partS_at (i := i) (by omega)]; first | rw [if_pos (by omega), if_neg (by assumption)] | rw [if_neg (by omega)]) _ _ _ hP hD hS (lv_sub hl [0, 1, 2, 3, 4, 5] rfl)
          · refine lv_lload hx hb dX0_partOf_66 (lv_at hl 0 rfl) ?_
            have hP9 : va_P (dC, dI) vwCl (vX0_partOf cA r0 r1 r2 r3 r4 r5 r6 row rs tg st ln pa nd ar lv of nod idx ()) _ := hP
            have hD9 : va_D A (vX0_partOf cA r0 r1 r2 r3 r4 r5 r6 row rs tg st ln pa nd ar lv of nod idx ()) := hD
            have hq9 : pX0_partOf r0 r1 r2 r3 r4 r5 r6 row rs tg st ln pa nd ar lv of nod idx (lN (min (pt * 128 + row i % 128) 1099511627776)) () := by show _ = capL _; rw [← hinv, partS_at (i := i) (by omega), if_pos (by omega), if_pos (by assumption)]; show lN _ = lN _; rw [hpt, min_cap]
            exact W.lret (v := lN (min (pt * 128 + row i % 128) 1099511627776)) hx hb hr (fun t ht hW => ⟨⟨lN (min (pt * 128 + row i % 128) 1099511627776), (), rfl, hq9, by rw [ht]; exact hP9, va_K.moved hW.alike hK, hD9⟩, hS.F ht⟩) hS.2.2 dX0_partOf_68
  exact lp_13 (st nod + ln nod - (st nod) + 1) (st nod) 0 0 0 (Nat.lt_succ_self _) (by omega) (by omega) rfl (by rw [Nat.add_sub_cancel_left]) _ _ _ hP hD hS (lv_sub hl [0, 1, 2, 3, 4, 5] rfl)
abbrev pX0_arcOf (r0 : Nat) (r1 : Nat) (r2 : Nat) (r3 : Nat) (r4 : Nat) (r5 : Nat) (r6 : Nat) (row : Nat → Nat) (rs : Nat) (tg : Nat → Nat) (st : Nat → Nat) (ln : Nat → Nat) (pa : Nat → Int32) (nd : Nat) (ar : Nat → Nat) (lv : Nat) (of : Int32) (node : Int32) (k : Int32) : Int32 → Unit → Prop := fun (r : Int32) (u : Unit) => r = if isNd nd node ∧ tg node.toNatClampNeg = 6 ∧ ¬ k < 0 then oidS row (st node.toNatClampNeg) (ln node.toNatClampNeg) k.toNatClampNeg else -1
abbrev vX0_arcOf (cA : ClassId) (r0 : Nat) (r1 : Nat) (r2 : Nat) (r3 : Nat) (r4 : Nat) (r5 : Nat) (r6 : Nat) (row : Nat → Nat) (rs : Nat) (tg : Nat → Nat) (st : Nat → Nat) (ln : Nat → Nat) (pa : Nat → Int32) (nd : Nat) (ar : Nat → Nat) (lv : Nat) (of : Int32) (node : Int32) (k : Int32) : Unit → va_W := fun (u : Unit) => wR cA r0 r1 r2 r3 r4 r5 r6 row rs tg st ln pa nd ar lv of
abbrev qX0_arcOf (dC : Nat → ClassId) (dI : Nat → Nat → Nat) (cA : ClassId) (A : Nat → Prop) (r0 : Nat) (r1 : Nat) (r2 : Nat) (r3 : Nat) (r4 : Nat) (r5 : Nat) (r6 : Nat) (row : Nat → Nat) (rs : Nat) (tg : Nat → Nat) (st : Nat → Nat) (ln : Nat → Nat) (pa : Nat → Int32) (nd : Nat) (ar : Nat → Nat) (lv : Nat) (of : Int32) (node : Int32) (k : Int32) : Array Value → State → Outcome → State → Prop := va_Qi (pX0_arcOf r0 r1 r2 r3 r4 r5 r6 row rs tg st ln pa nd ar lv of node k) (fun u => cAft dC dI cA A (vX0_arcOf cA r0 r1 r2 r3 r4 r5 r6 row rs tg st ln pa nd ar lv of node k u)) A
set_option maxHeartbeats 4000000 in
set_option maxRecDepth 100000 in
theorem k_X0_arcOf (l : Launch) (dC : Nat → ClassId) (dI : Nat → Nat → Nat) (cA : ClassId) (r0 : Nat) (r1 : Nat) (r2 : Nat) (r3 : Nat) (r4 : Nat) (r5 : Nat) (r6 : Nat) (row : Nat → Nat) (rs : Nat) (tg : Nat → Nat) (st : Nat → Nat) (ln : Nat → Nat) (pa : Nat → Int32) (nd : Nat) (ar : Nat → Nat) (lv : Nat) (of : Int32) (node : Int32) (k : Int32) (sz : Nat) (hnd : nd ≤ 64) (hrow : ∀ j, row j < 256) (htg : ∀ j, tg j < 256) (hse : ∀ j, j < nd → st j + ln j ≤ 300) : Met l yX0_arcOf wsX0_arcOf ({ frames := 2, cells := 0, slots := 0, locals := 49 } : Room) (va_Pc [.ref r0, .int node, .int k] (cPre dC dI cA (wR cA r0 r1 r2 r3 r4 r5 r6 row rs tg st ln pa nd ar lv of) sz)) (qX0_arcOf dC dI cA (va_A (wR cA r0 r1 r2 r3 r4 r5 r6 row rs tg st ln pa nd ar lv of) sz) r0 r1 r2 r3 r4 r5 r6 row rs tg st ln pa nd ar lv of node k) 0 0 (va_A (wR cA r0 r1 r2 r3 r4 r5 r6 row rs tg st ln pa nd ar lv of) sz) := by
  refine Met.ofW (cc := cX0_arcOf) (maxL := 8) (ret := (some .int)) (by decide) rfl ?_
  intro p e s m args below meth c s₁ B hml hv
  obtain ⟨rfl, hsz, hP, hK, hD0⟩ := hv
  have hx := B.exec
  have hb := B.bytes
  have hr := B.returns
  have hts := atoms_spec (ws := wsX0_arcOf) B.pre
  have hown : s.vm.findClass RX0 = some m.cls := findClass_of_methodNamed B.named
  have hlocks := B.notSynchronized
  subst hsz
  have hD := hD0.self (sz := s.heap.size)
  generalize hAe : va_A (wR cA r0 r1 r2 r3 r4 r5 r6 row rs tg st ln pa nd ar lv of) s.heap.size = A at hD ⊢
  have hA : ∀ q : Nat, s.heap.size ≤ q → A q := fun q h => by rw [← hAe]; exact Or.inr h
  have hS : va_S A s.heap s.heap [] := va_S.rf
  have hl := lv_entry ([.ref r0, .int node, .int k]) (n := 8) (Nat.le_of_ble_eq_true rfl)
  rw [lg_entry_eq]
  generalize (lg_sl ([.ref r0, .int node, .int k]) ++ List.replicate (8 - (lg_sl ([.ref r0, .int node, .int k])).length) Slot.unset).toArray = ls at hl ⊢
  have hl : lv_has ls 8 [(0, .ref r0), (1, .int node), (2, .int k)] := hl
  have hinX0 : ∀ w ∈ wsX00, w ∈ wsX0_arcOf := fun _ h => List.mem_cons_of_mem _ (List.mem_append_right _ h)
  have hf_19 := hts (.fieldLink RX0 19 "DerDesk$Reader" "tags" "[I") (by decide +kernel)
  have hP : va_P (dC, dI) vwCl (wR cA r0 r1 r2 r3 r4 r5 r6 row rs tg st ln pa nd ar lv of) s.heap := hP
  refine lv_aload_n hx hb dX0_arcOf_0 rfl (lv_at hl 0 rfl) ?_
  refine lv_iload_n hx hb dX0_arcOf_1 rfl (lv_at hl 1 rfl) ?_
  refine cl_Vi (As := [.int node]) (rest := []) (wr := []) ⟨hx, hb, hml, hown, hts⟩ (k_X0_isNode l dC dI cA r0 r1 r2 r3 r4 r5 r6 row rs tg st ln pa nd ar lv of node _ ) (cwV 1 hts gX0_arcOf_X0_isNode rfl rfl rfl (by decide +kernel) ⟨Nat.le_of_ble_eq_true rfl, Nat.le_of_ble_eq_true rfl⟩) hK hP hD hS hA [0, 1, 2, 3, 4, 5, 6] [] rfl rfl (by decide) (by decide) (by decide) (ci := 0) (q0 := 0) rfl rfl rfl rfl hl.1 rfl (Nat.le_of_ble_eq_true rfl) dX0_arcOf_2 ⟨Nat.le_of_ble_eq_true rfl, Nat.le_of_ble_eq_true rfl⟩ (fun r_1 u_1 H locs hw_1 hP hD hS => ?_)
  have hP : va_P (dC, dI) vwCl (wR cA r0 r1 r2 r3 r4 r5 r6 row rs tg st ln pa nd ar lv of) H := hP
  have hD : va_D A (wR cA r0 r1 r2 r3 r4 r5 r6 row rs tg st ln pa nd ar lv of) := hD
  have hw_1 : r_1 = if isNd nd node then 1 else 0 := hw_1
  have hw_1 := hw_1.symm
  subst hw_1
  refine hl_ifb_eq (tgt := 23) hx hb dX0_arcOf_5 (by decide) (fun c_2 => ?_) (fun c_2 => ?_)
  · refine lv_iconst (v := (-1)) hx hb dX0_arcOf_23 (by decide) ?_
    have hP9 : va_P (dC, dI) vwCl (vX0_arcOf cA r0 r1 r2 r3 r4 r5 r6 row rs tg st ln pa nd ar lv of node k ()) _ := hP
    have hD9 : va_D A (vX0_arcOf cA r0 r1 r2 r3 r4 r5 r6 row rs tg st ln pa nd ar lv of node k ()) := hD
    have hq9 : pX0_arcOf r0 r1 r2 r3 r4 r5 r6 row rs tg st ln pa nd ar lv of node k ((-1)) () := (if_neg (fun h => by first | exact absurd h.1 (by assumption) | exact absurd h.2.1 (by assumption) | exact absurd (by assumption : 0 ≤ k) (fun z => h.2.2 (by exact Int32.not_le.mp z)) | grind)).symm
    exact W.iret (v := (-1)) hx hb hr (fun t ht hW => ⟨⟨(-1), (), rfl, hq9, by rw [ht]; exact hP9, va_K.moved hW.alike hK, hD9⟩, hS.F ht⟩) hS.2.2 dX0_arcOf_24
  · refine lv_aload_n hx hb dX0_arcOf_8 rfl (lv_at hl 0 rfl) ?_
    refine va_get (D := (dC, dI)) (ci := 0) (v := .ref r2) (C := RX0) (T := TX0) (N := 10) hx hb hts hinX0 hown hK hP 0 rfl rfl 2 (by decide) hf_19 (fun _ h9 => h9) rfl dX0_arcOf_9 ?_
    refine lv_iload_n hx hb dX0_arcOf_12 rfl (lv_at hl 1 rfl) ?_
    have hq := ‹isNd nd node›
    have hnl := cl_lt hq.1 (by omega) hq.2
    refine hl_top (cl_of hq.1) ?_
    refine hl_iald hx hb hK hP 2 0 rfl rfl (by omega) (by decide) dX0_arcOf_13 ?_
    have hv_3 := htg node.toNatClampNeg
    refine lv_bipush (v := nI 6) hx hb dX0_arcOf_14 (by decide) ?_
    refine hl_icmp_ne (tgt := 23) hx hb dX0_arcOf_16 (by decide) (by omega) (by omega) (fun c_4 => ?_) (fun c_4 => ?_)
    · refine lv_iconst (v := (-1)) hx hb dX0_arcOf_23 (by decide) ?_
      have hP9 : va_P (dC, dI) vwCl (vX0_arcOf cA r0 r1 r2 r3 r4 r5 r6 row rs tg st ln pa nd ar lv of node k ()) _ := hP
      have hD9 : va_D A (vX0_arcOf cA r0 r1 r2 r3 r4 r5 r6 row rs tg st ln pa nd ar lv of node k ()) := hD
      have hq9 : pX0_arcOf r0 r1 r2 r3 r4 r5 r6 row rs tg st ln pa nd ar lv of node k ((-1)) () := (if_neg (fun h => by first | exact absurd h.1 (by assumption) | exact absurd h.2.1 (by assumption) | exact absurd (by assumption : 0 ≤ k) (fun z => h.2.2 (by exact Int32.not_le.mp z)) | grind)).symm
      exact W.iret (v := (-1)) hx hb hr (fun t ht hW => ⟨⟨(-1), (), rfl, hq9, by rw [ht]; exact hP9, va_K.moved hW.alike hK, hD9⟩, hS.F ht⟩) hS.2.2 dX0_arcOf_24
    · refine lv_iload_n hx hb dX0_arcOf_19 rfl (lv_at hl 2 rfl) ?_
      refine lv_if_ge (tgt := 25) hx hb dX0_arcOf_20 (by decide) (fun c_5 => ?_) (fun c_5 => ?_)
      · have hq := ‹isNd nd node›
        have hnl := cl_lt hq.1 (by omega) hq.2
        have hse1 := hse _ hnl
        have hk0 : ¬ k < 0 := Int32.not_lt.mpr (by assumption)
        have hne : node = nI node.toNatClampNeg := cl_of hq.1
        have hke : k = nI k.toNatClampNeg := cl_of hk0
        have hkb := cl_b k
        have hl : lv_has ls 8 [(0, .ref r0), (1, .int (nI node.toNatClampNeg)), (2, .int (nI k.toNatClampNeg))] := by rw [← hne, ← hke]; exact hl
        refine lv_aload_n hx hb dX0_arcOf_25 rfl (lv_at hl 0 rfl) ?_
        refine lv_iload_n hx hb dX0_arcOf_26 rfl (lv_at hl 1 rfl) ?_
        refine lv_iload_n hx hb dX0_arcOf_27 rfl (lv_at hl 2 rfl) ?_
        refine lv_iconst (v := nI 2) hx hb dX0_arcOf_28 (by decide) ?_
        refine hl_icmp_ge (tgt := 36) hx hb dX0_arcOf_29 (by decide) (by omega) (by omega) (fun c_6 => ?_) (fun c_6 => ?_)
        · refine lv_iload_n hx hb dX0_arcOf_36 rfl (lv_at hl 2 rfl) ?_
          refine lv_iconst (v := nI 1) hx hb dX0_arcOf_37 (by decide) ?_
          refine hl_isub hx hb (by omega) dX0_arcOf_38 ?_
          refine cl_Vl (As := [.int (nI node.toNatClampNeg), .int (nI (k.toNatClampNeg - 1))]) (rest := []) (wr := []) ⟨hx, hb, hml, hown, hts⟩ (k_X0_partOf l dC dI cA r0 r1 r2 r3 r4 r5 r6 row rs tg st ln pa nd ar lv of node.toNatClampNeg (k.toNatClampNeg - 1) _ hrow (by omega) (by omega) (by omega)) (cwV 2 hts gX0_arcOf_X0_partOf rfl rfl rfl (by decide +kernel) ⟨Nat.le_of_ble_eq_true rfl, Nat.le_of_ble_eq_true rfl⟩) hK hP hD hS hA [0, 1, 2, 3, 4, 5, 6] [] rfl rfl (by decide) (by decide) (by decide) (ci := 0) (q0 := 0) rfl rfl rfl rfl hl.1 rfl (Nat.le_of_ble_eq_true rfl) dX0_arcOf_39 ⟨Nat.le_of_ble_eq_true rfl, Nat.le_of_ble_eq_true rfl⟩ (fun r_7 u_7 H locs hw_7 hP hD hS => ?_)
          have hP : va_P (dC, dI) vwCl (wR cA r0 r1 r2 r3 r4 r5 r6 row rs tg st ln pa nd ar lv of) H := hP
          have hD : va_D A (wR cA r0 r1 r2 r3 r4 r5 r6 row rs tg st ln pa nd ar lv of) := hD
          have hw_7 : r_7 = capL (partS row (st node.toNatClampNeg + ln node.toNatClampNeg) (ln node.toNatClampNeg) 0 0 (k.toNatClampNeg - 1)) := hw_7
          rcases hp : partS row (st node.toNatClampNeg + ln node.toNatClampNeg) (ln node.toNatClampNeg) 0 0 (k.toNatClampNeg - 1) with _ | tt
          · rw [hp] at hw_7
            have hw_7 : (-1) = r_7 := hw_7.symm
            subst hw_7
            refine lv_lstore_n (lv' := [(3, .long (-1)), (0, .ref r0), (1, .int (nI node.toNatClampNeg)), (2, .int (nI k.toNatClampNeg))]) hx hb dX0_arcOf_42 rfl hl (by decide) rfl (fun ls hl => ?_)
            refine lv_lload_n hx hb dX0_arcOf_43 rfl (lv_at hl 0 rfl) ?_
            refine lv_lconst (v := lN 0) hx hb dX0_arcOf_44 (by decide) ?_
            refine W.lcmp hx hb dX0_arcOf_45 ?_
            refine lv_if_ge (tgt := 51) hx hb dX0_arcOf_46 (by decide) (fun c_8 => absurd c_8 (by decide)) (fun c_8 => ?_)
            refine lv_iconst (v := (-1)) hx hb dX0_arcOf_49 (by decide) ?_
            have hP9 : va_P (dC, dI) vwCl (vX0_arcOf cA r0 r1 r2 r3 r4 r5 r6 row rs tg st ln pa nd ar lv of node k ()) _ := hP
            have hD9 : va_D A (vX0_arcOf cA r0 r1 r2 r3 r4 r5 r6 row rs tg st ln pa nd ar lv of node k ()) := hD
            have hq9 : pX0_arcOf r0 r1 r2 r3 r4 r5 r6 row rs tg st ln pa nd ar lv of node k ((-1)) () := (by show _ = if _ then _ else _; rw [if_pos ⟨hq, by assumption, hk0⟩]; unfold oidS; (first | rw [if_pos (by omega)] | rw [if_neg (by omega)]); rw [hp]; rfl)
            exact W.iret (v := (-1)) hx hb hr (fun t ht hW => ⟨⟨(-1), (), rfl, hq9, by rw [ht]; exact hP9, va_K.moved hW.alike hK, hD9⟩, hS.F ht⟩) hS.2.2 dX0_arcOf_50
          · rw [hp] at hw_7
            have hw_7 : lN (min tt 1099511627776) = r_7 := hw_7.symm
            subst hw_7
            have hmn : min tt 1099511627776 ≤ 1099511627776 := Nat.min_le_right _ _
            refine lv_lstore_n (lv' := [(3, .long (lN (min tt 1099511627776))), (0, .ref r0), (1, .int (nI node.toNatClampNeg)), (2, .int (nI k.toNatClampNeg))]) hx hb dX0_arcOf_42 rfl hl (by decide) rfl (fun ls hl => ?_)
            refine lv_lload_n hx hb dX0_arcOf_43 rfl (lv_at hl 0 rfl) ?_
            refine lv_lconst (v := lN 0) hx hb dX0_arcOf_44 (by decide) ?_
            refine W.lcmp hx hb dX0_arcOf_45 ?_
            refine lv_if_ge (tgt := 51) hx hb dX0_arcOf_46 (by decide) (fun c_9 => ?_) (fun c_9 => absurd ((lg_cmp_ge _ _).mpr ((pk_lLE (by decide) (by omega)).mpr (Nat.zero_le _))) c_9)
            refine lv_lload_n hx hb dX0_arcOf_51 rfl (lv_at hl 0 rfl) ?_
            refine lv_lstore (lv' := [(5, .long (lN (min tt 1099511627776))), (3, .long (lN (min tt 1099511627776))), (0, .ref r0), (1, .int (nI node.toNatClampNeg)), (2, .int (nI k.toNatClampNeg))]) hx hb dX0_arcOf_52 hl (by decide) rfl (fun ls hl => ?_)
            refine lv_iload_n hx hb dX0_arcOf_54 rfl (lv_at hl 4 rfl) ?_
            refine lv_iconst (v := nI 2) hx hb dX0_arcOf_55 (by decide) ?_
            refine hl_icmp_ge (tgt := 85) hx hb dX0_arcOf_56 (by decide) (by omega) (by omega) (fun c_10 => ?_) (fun c_10 => absurd (by omega) c_10)
            refine lv_lload hx hb dX0_arcOf_85 (lv_at hl 0 rfl) ?_
            refine lv_ldc2 (v := 2147483647) hx hb hown (hts (.constantLong RX0 113 (2147483647)) (by decide +kernel)) dX0_arcOf_87 ?_
            rw [show (2147483647 : Int64) = lN 2147483647 from rfl]
            refine W.lcmp hx hb dX0_arcOf_90 ?_
            refine lv_if_le (tgt := 99) hx hb dX0_arcOf_91 (by decide) (fun c_11 => ?_) (fun c_11 => ?_)
            · have c_11 := lle_t (by omega) (by omega) c_11
              refine lv_lload hx hb dX0_arcOf_99 (lv_at hl 0 rfl) ?_
              refine lv_l2i (v := (lN (min tt 1099511627776)).toInt32) hx hb dX0_arcOf_101 rfl ?_
              have hP9 : va_P (dC, dI) vwCl (vX0_arcOf cA r0 r1 r2 r3 r4 r5 r6 row rs tg st ln pa nd ar lv of node k ()) _ := hP
              have hD9 : va_D A (vX0_arcOf cA r0 r1 r2 r3 r4 r5 r6 row rs tg st ln pa nd ar lv of node k ()) := hD
              have hq9 : pX0_arcOf r0 r1 r2 r3 r4 r5 r6 row rs tg st ln pa nd ar lv of node k (((lN (min tt 1099511627776)).toInt32)) () := (by show _ = if _ then _ else _; rw [if_pos ⟨hq, by assumption, hk0⟩]; unfold oidS; (first | rw [if_pos (show k.toNatClampNeg < 2 by omega)] | rw [if_neg (show ¬ k.toNatClampNeg < 2 by omega)]); rw [hp, arc_cap]; unfold arcV; (first | rw [if_pos (show k.toNatClampNeg = 0 by omega)] | rw [if_neg (show ¬ k.toNatClampNeg = 0 by omega), if_pos (show k.toNatClampNeg = 1 by omega)] | rw [if_neg (show ¬ k.toNatClampNeg = 0 by omega), if_neg (show ¬ k.toNatClampNeg = 1 by omega)]); first | rw [if_pos (by omega)] | (rw [if_neg (by omega)]; exact lN_i _))
              exact W.iret (v := ((lN (min tt 1099511627776)).toInt32)) hx hb hr (fun t ht hW => ⟨⟨((lN (min tt 1099511627776)).toInt32), (), rfl, hq9, by rw [ht]; exact hP9, va_K.moved hW.alike hK, hD9⟩, hS.F ht⟩) hS.2.2 dX0_arcOf_102
            · have c_11 := lle_f (by omega) (by omega) c_11
              refine lv_bipush (v := (-2)) hx hb dX0_arcOf_94 (by decide) ?_
              refine lv_goto (tgt := 102) hx hb dX0_arcOf_96 (by decide) ?_
              have hP9 : va_P (dC, dI) vwCl (vX0_arcOf cA r0 r1 r2 r3 r4 r5 r6 row rs tg st ln pa nd ar lv of node k ()) _ := hP
              have hD9 : va_D A (vX0_arcOf cA r0 r1 r2 r3 r4 r5 r6 row rs tg st ln pa nd ar lv of node k ()) := hD
              have hq9 : pX0_arcOf r0 r1 r2 r3 r4 r5 r6 row rs tg st ln pa nd ar lv of node k ((-2)) () := (by show _ = if _ then _ else _; rw [if_pos ⟨hq, by assumption, hk0⟩]; unfold oidS; (first | rw [if_pos (show k.toNatClampNeg < 2 by omega)] | rw [if_neg (show ¬ k.toNatClampNeg < 2 by omega)]); rw [hp, arc_cap]; unfold arcV; (first | rw [if_pos (show k.toNatClampNeg = 0 by omega)] | rw [if_neg (show ¬ k.toNatClampNeg = 0 by omega), if_pos (show k.toNatClampNeg = 1 by omega)] | rw [if_neg (show ¬ k.toNatClampNeg = 0 by omega), if_neg (show ¬ k.toNatClampNeg = 1 by omega)]); first | rw [if_pos (by omega)] | (rw [if_neg (by omega)]; exact lN_i _))
              exact W.iret (v := (-2)) hx hb hr (fun t ht hW => ⟨⟨(-2), (), rfl, hq9, by rw [ht]; exact hP9, va_K.moved hW.alike hK, hD9⟩, hS.F ht⟩) hS.2.2 dX0_arcOf_102
        · refine lv_iconst (v := nI 0) hx hb dX0_arcOf_32 (by decide) ?_
          refine lv_goto (tgt := 39) hx hb dX0_arcOf_33 (by decide) ?_
          refine cl_Vl (As := [.int (nI node.toNatClampNeg), .int (nI 0)]) (rest := []) (wr := []) ⟨hx, hb, hml, hown, hts⟩ (k_X0_partOf l dC dI cA r0 r1 r2 r3 r4 r5 r6 row rs tg st ln pa nd ar lv of node.toNatClampNeg 0 _ hrow (by omega) (by omega) (by omega)) (cwV 2 hts gX0_arcOf_X0_partOf rfl rfl rfl (by decide +kernel) ⟨Nat.le_of_ble_eq_true rfl, Nat.le_of_ble_eq_true rfl⟩) hK hP hD hS hA [0, 1, 2, 3, 4, 5, 6] [] rfl rfl (by decide) (by decide) (by decide) (ci := 0) (q0 := 0) rfl rfl rfl rfl hl.1 rfl (Nat.le_of_ble_eq_true rfl) dX0_arcOf_39 ⟨Nat.le_of_ble_eq_true rfl, Nat.le_of_ble_eq_true rfl⟩ (fun r_12 u_12 H locs hw_12 hP hD hS => ?_)
          have hP : va_P (dC, dI) vwCl (wR cA r0 r1 r2 r3 r4 r5 r6 row rs tg st ln pa nd ar lv of) H := hP
          have hD : va_D A (wR cA r0 r1 r2 r3 r4 r5 r6 row rs tg st ln pa nd ar lv of) := hD
          have hw_12 : r_12 = capL (partS row (st node.toNatClampNeg + ln node.toNatClampNeg) (ln node.toNatClampNeg) 0 0 0) := hw_12
          rcases hp : partS row (st node.toNatClampNeg + ln node.toNatClampNeg) (ln node.toNatClampNeg) 0 0 0 with _ | tt
          · rw [hp] at hw_12
            have hw_12 : (-1) = r_12 := hw_12.symm
            subst hw_12
            refine lv_lstore_n (lv' := [(3, .long (-1)), (0, .ref r0), (1, .int (nI node.toNatClampNeg)), (2, .int (nI k.toNatClampNeg))]) hx hb dX0_arcOf_42 rfl hl (by decide) rfl (fun ls hl => ?_)
            refine lv_lload_n hx hb dX0_arcOf_43 rfl (lv_at hl 0 rfl) ?_
            refine lv_lconst (v := lN 0) hx hb dX0_arcOf_44 (by decide) ?_
            refine W.lcmp hx hb dX0_arcOf_45 ?_
            refine lv_if_ge (tgt := 51) hx hb dX0_arcOf_46 (by decide) (fun c_13 => absurd c_13 (by decide)) (fun c_13 => ?_)
            refine lv_iconst (v := (-1)) hx hb dX0_arcOf_49 (by decide) ?_
            have hP9 : va_P (dC, dI) vwCl (vX0_arcOf cA r0 r1 r2 r3 r4 r5 r6 row rs tg st ln pa nd ar lv of node k ()) _ := hP
            have hD9 : va_D A (vX0_arcOf cA r0 r1 r2 r3 r4 r5 r6 row rs tg st ln pa nd ar lv of node k ()) := hD
            have hq9 : pX0_arcOf r0 r1 r2 r3 r4 r5 r6 row rs tg st ln pa nd ar lv of node k ((-1)) () := (by show _ = if _ then _ else _; rw [if_pos ⟨hq, by assumption, hk0⟩]; unfold oidS; (first | rw [if_pos (by omega)] | rw [if_neg (by omega)]); rw [hp]; rfl)
            exact W.iret (v := (-1)) hx hb hr (fun t ht hW => ⟨⟨(-1), (), rfl, hq9, by rw [ht]; exact hP9, va_K.moved hW.alike hK, hD9⟩, hS.F ht⟩) hS.2.2 dX0_arcOf_50
          · rw [hp] at hw_12
            have hw_12 : lN (min tt 1099511627776) = r_12 := hw_12.symm
            subst hw_12
            have hmn : min tt 1099511627776 ≤ 1099511627776 := Nat.min_le_right _ _
            refine lv_lstore_n (lv' := [(3, .long (lN (min tt 1099511627776))), (0, .ref r0), (1, .int (nI node.toNatClampNeg)), (2, .int (nI k.toNatClampNeg))]) hx hb dX0_arcOf_42 rfl hl (by decide) rfl (fun ls hl => ?_)
            refine lv_lload_n hx hb dX0_arcOf_43 rfl (lv_at hl 0 rfl) ?_
            refine lv_lconst (v := lN 0) hx hb dX0_arcOf_44 (by decide) ?_
            refine W.lcmp hx hb dX0_arcOf_45 ?_
            refine lv_if_ge (tgt := 51) hx hb dX0_arcOf_46 (by decide) (fun c_14 => ?_) (fun c_14 => absurd ((lg_cmp_ge _ _).mpr ((pk_lLE (by decide) (by omega)).mpr (Nat.zero_le _))) c_14)
            refine lv_lload_n hx hb dX0_arcOf_51 rfl (lv_at hl 0 rfl) ?_
            refine lv_lstore (lv' := [(5, .long (lN (min tt 1099511627776))), (3, .long (lN (min tt 1099511627776))), (0, .ref r0), (1, .int (nI node.toNatClampNeg)), (2, .int (nI k.toNatClampNeg))]) hx hb dX0_arcOf_52 hl (by decide) rfl (fun ls hl => ?_)
            refine lv_iload_n hx hb dX0_arcOf_54 rfl (lv_at hl 4 rfl) ?_
            refine lv_iconst (v := nI 2) hx hb dX0_arcOf_55 (by decide) ?_
            refine hl_icmp_ge (tgt := 85) hx hb dX0_arcOf_56 (by decide) (by omega) (by omega) (fun c_15 => absurd c_15 (by omega)) (fun c_15 => ?_)
            refine lv_lload_n hx hb dX0_arcOf_59 rfl (lv_at hl 1 rfl) ?_
            refine cl_Si (As := [.long (lN (min tt 1099511627776))]) (rest := []) (wr := [(r0, .inr (0, [.ref r1, .int (nI rs), .ref r2, .ref r3, .ref r4, .ref r5, .int (nI nd), .ref r6, .int (nI lv), .int of])), (r1, .inl (cA, 300, .inl (nA row))), (r2, .inl (cA, 64, .inl (nA tg))), (r3, .inl (cA, 64, .inl (nA st))), (r4, .inl (cA, 64, .inl (nA ln))), (r5, .inl (cA, 64, .inl (pa))), (r6, .inl (cA, 16, .inl (nA ar)))]) ⟨hx, hb, hml, hown, hts⟩ (k_X0_firstArcOf l dC dI cA (min tt 1099511627776) _ (by omega)) (va_cwS 1 hts gX0_arcOf_X0_firstArcOf rfl rfl rfl (by decide +kernel) ⟨Nat.le_of_ble_eq_true rfl, Nat.le_of_ble_eq_true rfl⟩) hK hP hD hS hA [] [0, 1, 2, 3, 4, 5, 6] rfl rfl (by decide) (by decide) (by decide) rfl hl.1 rfl (Nat.le_of_ble_eq_true rfl) dX0_arcOf_60 ⟨Nat.le_of_ble_eq_true rfl, Nat.le_of_ble_eq_true rfl⟩ (fun r_16 u_16 H locs hw_16 hP hD hS => ?_)
            have hP : va_P (dC, dI) vwCl (wR cA r0 r1 r2 r3 r4 r5 r6 row rs tg st ln pa nd ar lv of) H := hP
            have hD : va_D A (wR cA r0 r1 r2 r3 r4 r5 r6 row rs tg st ln pa nd ar lv of) := hD
            have hw_16 : r_16 = nI (fst1 (min tt 1099511627776)) := hw_16
            have hw_16 := hw_16.symm
            subst hw_16
            have hf1 := fst1_le (min tt 1099511627776)
            refine lv_istore (lv' := [(7, .int (nI (fst1 (min tt 1099511627776)))), (5, .long (lN (min tt 1099511627776))), (3, .long (lN (min tt 1099511627776))), (0, .ref r0), (1, .int (nI node.toNatClampNeg)), (2, .int (nI k.toNatClampNeg))]) hx hb dX0_arcOf_63 hl (by decide) rfl (fun ls hl => ?_)
            refine lv_iload_n hx hb dX0_arcOf_65 rfl (lv_at hl 5 rfl) ?_
            refine hl_if_ne (tgt := 75) hx hb dX0_arcOf_66 (by decide) (by omega) (fun c_17 => ?_) (fun c_17 => ?_)
            · refine lv_lload_n hx hb dX0_arcOf_75 rfl (lv_at hl 2 rfl) ?_
              refine lv_bipush (v := nI 40) hx hb dX0_arcOf_76 (by decide) ?_
              refine lv_iload hx hb dX0_arcOf_78 (lv_at hl 0 rfl) ?_
              refine hl_imul hx hb dX0_arcOf_80 ?_
              refine lv_i2l (v := (nI (40 * (fst1 (min tt 1099511627776)))).toInt64) hx hb dX0_arcOf_81 rfl ?_
              refine lv_lsub hx hb dX0_arcOf_82 ?_
              refine hl_topl (show _ = lN (min tt 1099511627776 - 40 * fst1 (min tt 1099511627776)) by rw [nI_l (by omega), lN_sub (by omega)]) ?_
              refine lv_lstore (lv' := [(5, .long (lN (min tt 1099511627776 - 40 * fst1 (min tt 1099511627776)))), (7, .int (nI (fst1 (min tt 1099511627776)))), (3, .long (lN (min tt 1099511627776))), (0, .ref r0), (1, .int (nI node.toNatClampNeg)), (2, .int (nI k.toNatClampNeg))]) hx hb dX0_arcOf_83 hl (by decide) rfl (fun ls hl => ?_)
              refine lv_lload hx hb dX0_arcOf_85 (lv_at hl 0 rfl) ?_
              refine lv_ldc2 (v := 2147483647) hx hb hown (hts (.constantLong RX0 113 (2147483647)) (by decide +kernel)) dX0_arcOf_87 ?_
              rw [show (2147483647 : Int64) = lN 2147483647 from rfl]
              refine W.lcmp hx hb dX0_arcOf_90 ?_
              refine lv_if_le (tgt := 99) hx hb dX0_arcOf_91 (by decide) (fun c_18 => ?_) (fun c_18 => ?_)
              · have c_18 := lle_t (by omega) (by omega) c_18
                refine lv_lload hx hb dX0_arcOf_99 (lv_at hl 0 rfl) ?_
                refine lv_l2i (v := (lN (min tt 1099511627776 - 40 * fst1 (min tt 1099511627776))).toInt32) hx hb dX0_arcOf_101 rfl ?_
                have hP9 : va_P (dC, dI) vwCl (vX0_arcOf cA r0 r1 r2 r3 r4 r5 r6 row rs tg st ln pa nd ar lv of node k ()) _ := hP
                have hD9 : va_D A (vX0_arcOf cA r0 r1 r2 r3 r4 r5 r6 row rs tg st ln pa nd ar lv of node k ()) := hD
                have hq9 : pX0_arcOf r0 r1 r2 r3 r4 r5 r6 row rs tg st ln pa nd ar lv of node k (((lN (min tt 1099511627776 - 40 * fst1 (min tt 1099511627776))).toInt32)) () := (by show _ = if _ then _ else _; rw [if_pos ⟨hq, by assumption, hk0⟩]; unfold oidS; (first | rw [if_pos (show k.toNatClampNeg < 2 by omega)] | rw [if_neg (show ¬ k.toNatClampNeg < 2 by omega)]); rw [hp, arc_cap]; unfold arcV; (first | rw [if_pos (show k.toNatClampNeg = 0 by omega)] | rw [if_neg (show ¬ k.toNatClampNeg = 0 by omega), if_pos (show k.toNatClampNeg = 1 by omega)] | rw [if_neg (show ¬ k.toNatClampNeg = 0 by omega), if_neg (show ¬ k.toNatClampNeg = 1 by omega)]); first | rw [if_pos (by omega)] | (rw [if_neg (by omega)]; exact lN_i _))
                exact W.iret (v := ((lN (min tt 1099511627776 - 40 * fst1 (min tt 1099511627776))).toInt32)) hx hb hr (fun t ht hW => ⟨⟨((lN (min tt 1099511627776 - 40 * fst1 (min tt 1099511627776))).toInt32), (), rfl, hq9, by rw [ht]; exact hP9, va_K.moved hW.alike hK, hD9⟩, hS.F ht⟩) hS.2.2 dX0_arcOf_102
              · have c_18 := lle_f (by omega) (by omega) c_18
                refine lv_bipush (v := (-2)) hx hb dX0_arcOf_94 (by decide) ?_
                refine lv_goto (tgt := 102) hx hb dX0_arcOf_96 (by decide) ?_
                have hP9 : va_P (dC, dI) vwCl (vX0_arcOf cA r0 r1 r2 r3 r4 r5 r6 row rs tg st ln pa nd ar lv of node k ()) _ := hP
                have hD9 : va_D A (vX0_arcOf cA r0 r1 r2 r3 r4 r5 r6 row rs tg st ln pa nd ar lv of node k ()) := hD
                have hq9 : pX0_arcOf r0 r1 r2 r3 r4 r5 r6 row rs tg st ln pa nd ar lv of node k ((-2)) () := (by show _ = if _ then _ else _; rw [if_pos ⟨hq, by assumption, hk0⟩]; unfold oidS; (first | rw [if_pos (show k.toNatClampNeg < 2 by omega)] | rw [if_neg (show ¬ k.toNatClampNeg < 2 by omega)]); rw [hp, arc_cap]; unfold arcV; (first | rw [if_pos (show k.toNatClampNeg = 0 by omega)] | rw [if_neg (show ¬ k.toNatClampNeg = 0 by omega), if_pos (show k.toNatClampNeg = 1 by omega)] | rw [if_neg (show ¬ k.toNatClampNeg = 0 by omega), if_neg (show ¬ k.toNatClampNeg = 1 by omega)]); first | rw [if_pos (by omega)] | (rw [if_neg (by omega)]; exact lN_i _))
                exact W.iret (v := (-2)) hx hb hr (fun t ht hW => ⟨⟨(-2), (), rfl, hq9, by rw [ht]; exact hP9, va_K.moved hW.alike hK, hD9⟩, hS.F ht⟩) hS.2.2 dX0_arcOf_102
            · refine lv_iload hx hb dX0_arcOf_69 (lv_at hl 0 rfl) ?_
              refine lv_i2l (v := (nI (fst1 (min tt 1099511627776))).toInt64) hx hb dX0_arcOf_71 rfl ?_
              refine lv_goto (tgt := 83) hx hb dX0_arcOf_72 (by decide) ?_
              refine hl_topl (show _ = lN (fst1 (min tt 1099511627776)) from nI_l (by omega)) ?_
              refine lv_lstore (lv' := [(5, .long (lN (fst1 (min tt 1099511627776)))), (7, .int (nI (fst1 (min tt 1099511627776)))), (3, .long (lN (min tt 1099511627776))), (0, .ref r0), (1, .int (nI node.toNatClampNeg)), (2, .int (nI k.toNatClampNeg))]) hx hb dX0_arcOf_83 hl (by decide) rfl (fun ls hl => ?_)
              refine lv_lload hx hb dX0_arcOf_85 (lv_at hl 0 rfl) ?_
              refine lv_ldc2 (v := 2147483647) hx hb hown (hts (.constantLong RX0 113 (2147483647)) (by decide +kernel)) dX0_arcOf_87 ?_
              rw [show (2147483647 : Int64) = lN 2147483647 from rfl]
              refine W.lcmp hx hb dX0_arcOf_90 ?_
              refine lv_if_le (tgt := 99) hx hb dX0_arcOf_91 (by decide) (fun c_19 => ?_) (fun c_19 => ?_)
              · have c_19 := lle_t (by omega) (by omega) c_19
                refine lv_lload hx hb dX0_arcOf_99 (lv_at hl 0 rfl) ?_
                refine lv_l2i (v := (lN (fst1 (min tt 1099511627776))).toInt32) hx hb dX0_arcOf_101 rfl ?_
                have hP9 : va_P (dC, dI) vwCl (vX0_arcOf cA r0 r1 r2 r3 r4 r5 r6 row rs tg st ln pa nd ar lv of node k ()) _ := hP
                have hD9 : va_D A (vX0_arcOf cA r0 r1 r2 r3 r4 r5 r6 row rs tg st ln pa nd ar lv of node k ()) := hD
                have hq9 : pX0_arcOf r0 r1 r2 r3 r4 r5 r6 row rs tg st ln pa nd ar lv of node k (((lN (fst1 (min tt 1099511627776))).toInt32)) () := (by show _ = if _ then _ else _; rw [if_pos ⟨hq, by assumption, hk0⟩]; unfold oidS; (first | rw [if_pos (show k.toNatClampNeg < 2 by omega)] | rw [if_neg (show ¬ k.toNatClampNeg < 2 by omega)]); rw [hp, arc_cap]; unfold arcV; (first | rw [if_pos (show k.toNatClampNeg = 0 by omega)] | rw [if_neg (show ¬ k.toNatClampNeg = 0 by omega), if_pos (show k.toNatClampNeg = 1 by omega)] | rw [if_neg (show ¬ k.toNatClampNeg = 0 by omega), if_neg (show ¬ k.toNatClampNeg = 1 by omega)]); first | rw [if_pos (by omega)] | (rw [if_neg (by omega)]; exact lN_i _))
                exact W.iret (v := ((lN (fst1 (min tt 1099511627776))).toInt32)) hx hb hr (fun t ht hW => ⟨⟨((lN (fst1 (min tt 1099511627776))).toInt32), (), rfl, hq9, by rw [ht]; exact hP9, va_K.moved hW.alike hK, hD9⟩, hS.F ht⟩) hS.2.2 dX0_arcOf_102
              · have c_19 := lle_f (by omega) (by omega) c_19
                refine lv_bipush (v := (-2)) hx hb dX0_arcOf_94 (by decide) ?_
                refine lv_goto (tgt := 102) hx hb dX0_arcOf_96 (by decide) ?_
                have hP9 : va_P (dC, dI) vwCl (vX0_arcOf cA r0 r1 r2 r3 r4 r5 r6 row rs tg st ln pa nd ar lv of node k ()) _ := hP
                have hD9 : va_D A (vX0_arcOf cA r0 r1 r2 r3 r4 r5 r6 row rs tg st ln pa nd ar lv of node k ()) := hD
                have hq9 : pX0_arcOf r0 r1 r2 r3 r4 r5 r6 row rs tg st ln pa nd ar lv of node k ((-2)) () := (by show _ = if _ then _ else _; rw [if_pos ⟨hq, by assumption, hk0⟩]; unfold oidS; (first | rw [if_pos (show k.toNatClampNeg < 2 by omega)] | rw [if_neg (show ¬ k.toNatClampNeg < 2 by omega)]); rw [hp, arc_cap]; unfold arcV; (first | rw [if_pos (show k.toNatClampNeg = 0 by omega)] | rw [if_neg (show ¬ k.toNatClampNeg = 0 by omega), if_pos (show k.toNatClampNeg = 1 by omega)] | rw [if_neg (show ¬ k.toNatClampNeg = 0 by omega), if_neg (show ¬ k.toNatClampNeg = 1 by omega)]); first | rw [if_pos (by omega)] | (rw [if_neg (by omega)]; exact lN_i _))
                exact W.iret (v := (-2)) hx hb hr (fun t ht hW => ⟨⟨(-2), (), rfl, hq9, by rw [ht]; exact hP9, va_K.moved hW.alike hK, hD9⟩, hS.F ht⟩) hS.2.2 dX0_arcOf_102
      · refine lv_iconst (v := (-1)) hx hb dX0_arcOf_23 (by decide) ?_
        have hP9 : va_P (dC, dI) vwCl (vX0_arcOf cA r0 r1 r2 r3 r4 r5 r6 row rs tg st ln pa nd ar lv of node k ()) _ := hP
        have hD9 : va_D A (vX0_arcOf cA r0 r1 r2 r3 r4 r5 r6 row rs tg st ln pa nd ar lv of node k ()) := hD
        have hq9 : pX0_arcOf r0 r1 r2 r3 r4 r5 r6 row rs tg st ln pa nd ar lv of node k ((-1)) () := (if_neg (fun h => by first | exact absurd h.1 (by assumption) | exact absurd h.2.1 (by assumption) | exact absurd (by assumption : 0 ≤ k) (fun z => h.2.2 (by exact Int32.not_le.mp z)) | grind)).symm
        exact W.iret (v := (-1)) hx hb hr (fun t ht hW => ⟨⟨(-1), (), rfl, hq9, by rw [ht]; exact hP9, va_K.moved hW.alike hK, hD9⟩, hS.F ht⟩) hS.2.2 dX0_arcOf_24
