abbrev pX0_readIdentifier (r0 : Nat) (r1 : Nat) (r2 : Nat) (r3 : Nat) (r4 : Nat) (r5 : Nat) (r6 : Nat) (row : Nat → Nat) (rs : Nat) (tg : Nat → Nat) (st : Nat → Nat) (ln : Nat → Nat) (pa : Nat → Int32) (nd : Nat) (ar : Nat → Nat) (lv : Nat) (of : Int32) (pl : Nat) : Int32 → Int32 × (Nat → Nat) × (Nat → Int32) → Prop := fun (r : Int32) (u : Int32 × (Nat → Nat) × (Nat → Int32)) => match u with | (of2, tg2, pa2) => (idS row rs nd lv pl = none ∧ r = nI 0 ∧ of2 = of ∧ tg2 = va_up tg nd (row pl) ∧ pa2 = upd pa nd (parI lv ar)) ∨ (idS row rs nd lv pl = some (r, of2) ∧ r ≠ 0 ∧ tg2 = tg ∧ pa2 = pa)
abbrev vX0_readIdentifier (cA : ClassId) (r0 : Nat) (r1 : Nat) (r2 : Nat) (r3 : Nat) (r4 : Nat) (r5 : Nat) (r6 : Nat) (row : Nat → Nat) (rs : Nat) (tg : Nat → Nat) (st : Nat → Nat) (ln : Nat → Nat) (pa : Nat → Int32) (nd : Nat) (ar : Nat → Nat) (lv : Nat) (of : Int32) (pl : Nat) : Int32 × (Nat → Nat) × (Nat → Int32) → va_W := fun (u : Int32 × (Nat → Nat) × (Nat → Int32)) => match u with | (of2, tg2, pa2) => wR cA r0 r1 r2 r3 r4 r5 r6 row rs tg2 st ln pa2 nd ar lv of2
abbrev qX0_readIdentifier (dC : Nat → ClassId) (dI : Nat → Nat → Nat) (cA : ClassId) (A : Nat → Prop) (r0 : Nat) (r1 : Nat) (r2 : Nat) (r3 : Nat) (r4 : Nat) (r5 : Nat) (r6 : Nat) (row : Nat → Nat) (rs : Nat) (tg : Nat → Nat) (st : Nat → Nat) (ln : Nat → Nat) (pa : Nat → Int32) (nd : Nat) (ar : Nat → Nat) (lv : Nat) (of : Int32) (pl : Nat) : Array Value → State → Outcome → State → Prop := va_Qi (pX0_readIdentifier r0 r1 r2 r3 r4 r5 r6 row rs tg st ln pa nd ar lv of pl) (fun u => cAft dC dI cA A (vX0_readIdentifier cA r0 r1 r2 r3 r4 r5 r6 row rs tg st ln pa nd ar lv of pl u)) A
set_option maxHeartbeats 4000000 in
set_option maxRecDepth 100000 in
theorem k_X0_readIdentifier (l : Launch) (dC : Nat → ClassId) (dI : Nat → Nat → Nat) (cA : ClassId) (r0 : Nat) (r1 : Nat) (r2 : Nat) (r3 : Nat) (r4 : Nat) (r5 : Nat) (r6 : Nat) (row : Nat → Nat) (rs : Nat) (tg : Nat → Nat) (st : Nat → Nat) (ln : Nat → Nat) (pa : Nat → Int32) (nd : Nat) (ar : Nat → Nat) (lv : Nat) (of : Int32) (pl : Nat) (sz : Nat) (hrow : ∀ j, row j < 256) (htg : ∀ j, tg j < 256) (hst : ∀ j, st j < 1000) (hln : ∀ j, ln j < 65536) (har : ∀ j, ar j < 64) (hrs : rs ≤ 300) (hnd : nd ≤ 64) (hlv : lv ≤ 16) (hpl : pl ≤ 300) : Met l yX0_readIdentifier wsX0_readIdentifier ({ frames := 1, cells := 0, slots := 0, locals := 22 } : Room) (va_Pc [.ref r0, .int (nI pl)] (cPre dC dI cA (wR cA r0 r1 r2 r3 r4 r5 r6 row rs tg st ln pa nd ar lv of) sz)) (qX0_readIdentifier dC dI cA (va_A (wR cA r0 r1 r2 r3 r4 r5 r6 row rs tg st ln pa nd ar lv of) sz) r0 r1 r2 r3 r4 r5 r6 row rs tg st ln pa nd ar lv of pl) 0 0 (va_A (wR cA r0 r1 r2 r3 r4 r5 r6 row rs tg st ln pa nd ar lv of) sz) := by
  refine Met.ofW (cc := cX0_readIdentifier) (maxL := 2) (ret := (some .int)) (by decide) rfl ?_
  intro p e s m args below meth c s₁ B hml hv
  obtain ⟨rfl, hsz, hP, hK, hD0⟩ := hv
  have hx := B.exec
  have hb := B.bytes
  have hr := B.returns
  have hts := atoms_spec (ws := wsX0_readIdentifier) B.pre
  have hown : s.vm.findClass RX0 = some m.cls := findClass_of_methodNamed B.named
  have hlocks := B.notSynchronized
  subst hsz
  have hD := hD0.self (sz := s.heap.size)
  generalize hAe : va_A (wR cA r0 r1 r2 r3 r4 r5 r6 row rs tg st ln pa nd ar lv of) s.heap.size = A at hD ⊢
  have hA : ∀ q : Nat, s.heap.size ≤ q → A q := fun q h => by rw [← hAe]; exact Or.inr h
  have hS : va_S A s.heap s.heap [] := va_S.rf
  have hl := lv_entry ([.ref r0, .int (nI pl)]) (n := 2) (Nat.le_of_ble_eq_true rfl)
  rw [lg_entry_eq]
  generalize (lg_sl ([.ref r0, .int (nI pl)]) ++ List.replicate (2 - (lg_sl ([.ref r0, .int (nI pl)])).length) Slot.unset).toArray = ls at hl ⊢
  have hl : lv_has ls 2 [(0, .ref r0), (1, .int (nI pl))] := hl
  have hinX0 : ∀ w ∈ wsX00, w ∈ wsX0_readIdentifier := fun _ h => List.mem_cons_of_mem _ (List.mem_append_right _ h)
  have hf_9 := hts (.fieldLink RX0 9 "DerDesk$Reader" "row" "[I") (by decide +kernel)
  have hf_15 := hts (.fieldLink RX0 15 "DerDesk$Reader" "rowSize" "I") (by decide +kernel)
  have hf_19 := hts (.fieldLink RX0 19 "DerDesk$Reader" "tags" "[I") (by decide +kernel)
  have hf_28 := hts (.fieldLink RX0 28 "DerDesk$Reader" "parents" "[I") (by decide +kernel)
  have hf_31 := hts (.fieldLink RX0 31 "DerDesk$Reader" "nodes" "I") (by decide +kernel)
  have hf_34 := hts (.fieldLink RX0 34 "DerDesk$Reader" "around" "[I") (by decide +kernel)
  have hf_37 := hts (.fieldLink RX0 37 "DerDesk$Reader" "level" "I") (by decide +kernel)
  have hP : va_P (dC, dI) vwCl (wR cA r0 r1 r2 r3 r4 r5 r6 row rs tg st ln pa nd ar lv of) s.heap := hP
  refine lv_iload_n hx hb dX0_readIdentifier_0 rfl (lv_at hl 1 rfl) ?_
  refine lv_aload_n hx hb dX0_readIdentifier_1 rfl (lv_at hl 0 rfl) ?_
  refine va_get (D := (dC, dI)) (ci := 0) (v := .int (nI rs)) (C := RX0) (T := TX0) (N := 10) hx hb hts hinX0 hown hK hP 0 rfl rfl 1 (by decide) hf_15 (fun _ h9 => h9) rfl dX0_readIdentifier_2 ?_
  refine hl_icmp_lt (tgt := 18) hx hb dX0_readIdentifier_5 (by decide) (by omega) (by omega) (fun c_1 => ?_) (fun c_1 => ?_)
  · refine lv_aload_n hx hb dX0_readIdentifier_18 rfl (lv_at hl 0 rfl) ?_
    refine va_get (D := (dC, dI)) (ci := 0) (v := .ref r1) (C := RX0) (T := TX0) (N := 10) hx hb hts hinX0 hown hK hP 0 rfl rfl 0 (by decide) hf_9 (fun _ h9 => h9) rfl dX0_readIdentifier_19 ?_
    refine lv_iload_n hx hb dX0_readIdentifier_22 rfl (lv_at hl 1 rfl) ?_
    refine hl_iald hx hb hK hP 1 0 rfl rfl (by omega) (by decide) dX0_readIdentifier_23 ?_
    have hv_2 := hrow pl
    refine cl_Si (As := [.int (nI (row pl))]) (rest := []) (wr := [(r0, .inr (0, [.ref r1, .int (nI rs), .ref r2, .ref r3, .ref r4, .ref r5, .int (nI nd), .ref r6, .int (nI lv), .int of])), (r1, .inl (cA, 300, .inl (nA row))), (r2, .inl (cA, 64, .inl (nA tg))), (r3, .inl (cA, 64, .inl (nA st))), (r4, .inl (cA, 64, .inl (nA ln))), (r5, .inl (cA, 64, .inl (pa))), (r6, .inl (cA, 16, .inl (nA ar)))]) ⟨hx, hb, hml, hown, hts⟩ (k_X1_isIdentifier l dC dI cA (nI (row pl)) _ ) (va_cwS 1 hts gX0_readIdentifier_X1_isIdentifier rfl rfl rfl (by decide +kernel) ⟨Nat.le_of_ble_eq_true rfl, Nat.le_of_ble_eq_true rfl⟩) hK hP hD hS hA [] [0, 1, 2, 3, 4, 5, 6] rfl rfl (by decide) (by decide) (by decide) rfl hl.1 rfl (Nat.le_of_ble_eq_true rfl) dX0_readIdentifier_24 ⟨Nat.le_of_ble_eq_true rfl, Nat.le_of_ble_eq_true rfl⟩ (fun r_3 u_3 H locs hw_3 hP hD hS => ?_)
    have hP : va_P (dC, dI) vwCl (wR cA r0 r1 r2 r3 r4 r5 r6 row rs tg st ln pa nd ar lv of) H := hP
    have hD : va_D A (wR cA r0 r1 r2 r3 r4 r5 r6 row rs tg st ln pa nd ar lv of) := hD
    have hw_3 : r_3 = if isId (nI (row pl)) then 1 else 0 := hw_3
    have hw_3 := hw_3.symm
    subst hw_3
    refine hl_ifb_ne (tgt := 38) hx hb dX0_readIdentifier_27 (by decide) (fun c_4 => ?_) (fun c_4 => ?_)
    · refine lv_aload_n hx hb dX0_readIdentifier_38 rfl (lv_at hl 0 rfl) ?_
      refine va_get (D := (dC, dI)) (ci := 0) (v := .int (nI nd)) (C := RX0) (T := TX0) (N := 10) hx hb hts hinX0 hown hK hP 0 rfl rfl 6 (by decide) hf_31 (fun _ h9 => h9) rfl dX0_readIdentifier_39 ?_
      refine lv_bipush (v := nI 64) hx hb dX0_readIdentifier_42 (by decide) ?_
      refine hl_icmp_ge (tgt := 56) hx hb dX0_readIdentifier_44 (by decide) (by omega) (by omega) (fun c_5 => ?_) (fun c_5 => ?_)
      · refine lv_aload_n hx hb dX0_readIdentifier_56 rfl (lv_at hl 0 rfl) ?_
        refine lv_bipush (v := (-7)) hx hb dX0_readIdentifier_57 (by decide) ?_
        refine lv_iload_n hx hb dX0_readIdentifier_59 rfl (lv_at hl 1 rfl) ?_
        refine cl_Vi (As := [.int (-7), .int (nI pl)]) (rest := []) (wr := []) ⟨hx, hb, hml, hown, hts⟩ (k_X0_offend l dC dI cA r0 r1 r2 r3 r4 r5 r6 row rs tg st ln pa nd ar lv of (-7) (nI pl) _ ) (cwV 2 hts gX0_readIdentifier_X0_offend rfl rfl rfl (by decide +kernel) ⟨Nat.le_of_ble_eq_true rfl, Nat.le_of_ble_eq_true rfl⟩) hK hP hD hS hA [0, 1, 2, 3, 4, 5, 6] [] rfl rfl (by decide) (by decide) (by decide) (ci := 0) (q0 := 0) rfl rfl rfl rfl hl.1 rfl (Nat.le_of_ble_eq_true rfl) dX0_readIdentifier_60 ⟨Nat.le_of_ble_eq_true rfl, Nat.le_of_ble_eq_true rfl⟩ (fun r_6 u_6 H locs hw_6 hP hD hS => ?_)
        obtain ⟨of2_6, eu_6⟩ : ∃ z, z = u_6 := ⟨_, rfl⟩
        subst eu_6
        have hP : va_P (dC, dI) vwCl (wR cA r0 r1 r2 r3 r4 r5 r6 row rs tg st ln pa nd ar lv of2_6) H := hP
        have hD : va_D A (wR cA r0 r1 r2 r3 r4 r5 r6 row rs tg st ln pa nd ar lv of2_6) := hD
        have hw_6 : r_6 = (-7) ∧ of2_6 = (nI pl) := hw_6
        obtain ⟨e0_6, e1_6⟩ := hw_6
        have e0_6 := e0_6.symm
        subst e0_6
        have e1_6 := e1_6.symm
        subst e1_6
        have hP9 : va_P (dC, dI) vwCl (vX0_readIdentifier cA r0 r1 r2 r3 r4 r5 r6 row rs tg st ln pa nd ar lv of pl ((nI pl), tg, pa)) _ := hP
        have hD9 : va_D A (vX0_readIdentifier cA r0 r1 r2 r3 r4 r5 r6 row rs tg st ln pa nd ar lv of pl ((nI pl), tg, pa)) := hD
        have hq9 : pX0_readIdentifier r0 r1 r2 r3 r4 r5 r6 row rs tg st ln pa nd ar lv of pl ((-7)) ((nI pl), tg, pa) := Or.inr ⟨by unfold idS; rw [if_neg (by omega), if_neg (fun h => h (by assumption)), if_pos (by omega)], by decide, rfl, rfl⟩
        exact W.iret (v := (-7)) hx hb hr (fun t ht hW => ⟨⟨(-7), ((nI pl), tg, pa), rfl, hq9, by rw [ht]; exact hP9, va_K.moved hW.alike hK, hD9⟩, hS.F ht⟩) hS.2.2 dX0_readIdentifier_63
      · refine lv_aload_n hx hb dX0_readIdentifier_47 rfl (lv_at hl 0 rfl) ?_
        refine va_get (D := (dC, dI)) (ci := 0) (v := .int (nI lv)) (C := RX0) (T := TX0) (N := 10) hx hb hts hinX0 hown hK hP 0 rfl rfl 8 (by decide) hf_37 (fun _ h9 => h9) rfl dX0_readIdentifier_48 ?_
        refine lv_bipush (v := nI 16) hx hb dX0_readIdentifier_51 (by decide) ?_
        refine hl_icmp_lt (tgt := 64) hx hb dX0_readIdentifier_53 (by decide) (by omega) (by omega) (fun c_7 => ?_) (fun c_7 => ?_)
        · refine lv_aload_n hx hb dX0_readIdentifier_64 rfl (lv_at hl 0 rfl) ?_
          refine va_get (D := (dC, dI)) (ci := 0) (v := .ref r2) (C := RX0) (T := TX0) (N := 10) hx hb hts hinX0 hown hK hP 0 rfl rfl 2 (by decide) hf_19 (fun _ h9 => h9) rfl dX0_readIdentifier_65 ?_
          refine lv_aload_n hx hb dX0_readIdentifier_68 rfl (lv_at hl 0 rfl) ?_
          refine va_get (D := (dC, dI)) (ci := 0) (v := .int (nI nd)) (C := RX0) (T := TX0) (N := 10) hx hb hts hinX0 hown hK hP 0 rfl rfl 6 (by decide) hf_31 (fun _ h9 => h9) rfl dX0_readIdentifier_69 ?_
          refine lv_aload_n hx hb dX0_readIdentifier_72 rfl (lv_at hl 0 rfl) ?_
          refine va_get (D := (dC, dI)) (ci := 0) (v := .ref r1) (C := RX0) (T := TX0) (N := 10) hx hb hts hinX0 hown hK hP 0 rfl rfl 0 (by decide) hf_9 (fun _ h9 => h9) rfl dX0_readIdentifier_73 ?_
          refine lv_iload_n hx hb dX0_readIdentifier_76 rfl (lv_at hl 1 rfl) ?_
          refine hl_iald hx hb hK hP 1 0 rfl rfl (by omega) (by decide) dX0_readIdentifier_77 ?_
          have hv_8 := hrow pl
          refine hl_iast hx hb hK hP hD hS 2 0 rfl rfl (by omega) (by decide) dX0_readIdentifier_78 (fun H locs hP hD hS => ?_)
          have hP : va_P (dC, dI) vwCl (wR cA r0 r1 r2 r3 r4 r5 r6 row rs (va_up tg nd (row pl)) st ln pa nd ar lv of) H := hP
          have hD : va_D A (wR cA r0 r1 r2 r3 r4 r5 r6 row rs (va_up tg nd (row pl)) st ln pa nd ar lv of) := hD
          have hB_9 := up_lt htg (k := nd) (x := (row pl)) (by omega)
          refine lv_aload_n hx hb dX0_readIdentifier_79 rfl (lv_at hl 0 rfl) ?_
          refine va_get (D := (dC, dI)) (ci := 0) (v := .ref r5) (C := RX0) (T := TX0) (N := 10) hx hb hts hinX0 hown hK hP 0 rfl rfl 5 (by decide) hf_28 (fun _ h9 => h9) rfl dX0_readIdentifier_80 ?_
          refine lv_aload_n hx hb dX0_readIdentifier_83 rfl (lv_at hl 0 rfl) ?_
          refine va_get (D := (dC, dI)) (ci := 0) (v := .int (nI nd)) (C := RX0) (T := TX0) (N := 10) hx hb hts hinX0 hown hK hP 0 rfl rfl 6 (by decide) hf_31 (fun _ h9 => h9) rfl dX0_readIdentifier_84 ?_
          refine lv_aload_n hx hb dX0_readIdentifier_87 rfl (lv_at hl 0 rfl) ?_
          refine va_get (D := (dC, dI)) (ci := 0) (v := .int (nI lv)) (C := RX0) (T := TX0) (N := 10) hx hb hts hinX0 hown hK hP 0 rfl rfl 8 (by decide) hf_37 (fun _ h9 => h9) rfl dX0_readIdentifier_88 ?_
          refine hl_if_ne (tgt := 98) hx hb dX0_readIdentifier_91 (by decide) (by omega) (fun c_10 => ?_) (fun c_10 => ?_)
          · refine lv_aload_n hx hb dX0_readIdentifier_98 rfl (lv_at hl 0 rfl) ?_
            refine va_get (D := (dC, dI)) (ci := 0) (v := .ref r6) (C := RX0) (T := TX0) (N := 10) hx hb hts hinX0 hown hK hP 0 rfl rfl 7 (by decide) hf_34 (fun _ h9 => h9) rfl dX0_readIdentifier_99 ?_
            refine lv_aload_n hx hb dX0_readIdentifier_102 rfl (lv_at hl 0 rfl) ?_
            refine va_get (D := (dC, dI)) (ci := 0) (v := .int (nI lv)) (C := RX0) (T := TX0) (N := 10) hx hb hts hinX0 hown hK hP 0 rfl rfl 8 (by decide) hf_37 (fun _ h9 => h9) rfl dX0_readIdentifier_103 ?_
            refine lv_iconst (v := nI 1) hx hb dX0_readIdentifier_106 (by decide) ?_
            refine hl_isub hx hb (by omega) dX0_readIdentifier_107 ?_
            refine hl_iald hx hb hK hP 6 0 rfl rfl (by omega) (by decide) dX0_readIdentifier_108 ?_
            have hv_11 := har (lv - 1)
            refine hl_iastI hx hb hK hP hD hS 5 0 rfl rfl (by omega) (by decide) dX0_readIdentifier_109 (fun H locs hP hD hS => ?_)
            have hP : va_P (dC, dI) vwCl (wR cA r0 r1 r2 r3 r4 r5 r6 row rs (va_up tg nd (row pl)) st ln (upd pa nd (nI (ar (lv - 1)))) nd ar lv of) H := hP
            have hD : va_D A (wR cA r0 r1 r2 r3 r4 r5 r6 row rs (va_up tg nd (row pl)) st ln (upd pa nd (nI (ar (lv - 1)))) nd ar lv of) := hD
            refine lv_iconst (v := nI 0) hx hb dX0_readIdentifier_110 (by decide) ?_
            have hP9 : va_P (dC, dI) vwCl (vX0_readIdentifier cA r0 r1 r2 r3 r4 r5 r6 row rs tg st ln pa nd ar lv of pl (of, va_up tg nd (row pl), upd pa nd (nI (ar (lv - 1))))) _ := hP
            have hD9 : va_D A (vX0_readIdentifier cA r0 r1 r2 r3 r4 r5 r6 row rs tg st ln pa nd ar lv of pl (of, va_up tg nd (row pl), upd pa nd (nI (ar (lv - 1))))) := hD
            have hq9 : pX0_readIdentifier r0 r1 r2 r3 r4 r5 r6 row rs tg st ln pa nd ar lv of pl (nI 0) (of, va_up tg nd (row pl), upd pa nd (nI (ar (lv - 1)))) := Or.inl ⟨by unfold idS; rw [if_neg (by omega), if_neg (fun h => h (by assumption)), if_neg (by omega)], rfl, rfl, rfl, by unfold parI; first | rw [if_pos (by assumption)] | rw [if_neg (by assumption)]⟩
            exact W.iret (v := nI 0) hx hb hr (fun t ht hW => ⟨⟨nI 0, (of, va_up tg nd (row pl), upd pa nd (nI (ar (lv - 1)))), rfl, hq9, by rw [ht]; exact hP9, va_K.moved hW.alike hK, hD9⟩, hS.F ht⟩) hS.2.2 dX0_readIdentifier_111
          · refine lv_iconst (v := (-1)) hx hb dX0_readIdentifier_94 (by decide) ?_
            refine lv_goto (tgt := 109) hx hb dX0_readIdentifier_95 (by decide) ?_
            refine hl_iastI hx hb hK hP hD hS 5 0 rfl rfl (by omega) (by decide) dX0_readIdentifier_109 (fun H locs hP hD hS => ?_)
            have hP : va_P (dC, dI) vwCl (wR cA r0 r1 r2 r3 r4 r5 r6 row rs (va_up tg nd (row pl)) st ln (upd pa nd (-1)) nd ar lv of) H := hP
            have hD : va_D A (wR cA r0 r1 r2 r3 r4 r5 r6 row rs (va_up tg nd (row pl)) st ln (upd pa nd (-1)) nd ar lv of) := hD
            refine lv_iconst (v := nI 0) hx hb dX0_readIdentifier_110 (by decide) ?_
            have hP9 : va_P (dC, dI) vwCl (vX0_readIdentifier cA r0 r1 r2 r3 r4 r5 r6 row rs tg st ln pa nd ar lv of pl (of, va_up tg nd (row pl), upd pa nd (-1))) _ := hP
            have hD9 : va_D A (vX0_readIdentifier cA r0 r1 r2 r3 r4 r5 r6 row rs tg st ln pa nd ar lv of pl (of, va_up tg nd (row pl), upd pa nd (-1))) := hD
            have hq9 : pX0_readIdentifier r0 r1 r2 r3 r4 r5 r6 row rs tg st ln pa nd ar lv of pl (nI 0) (of, va_up tg nd (row pl), upd pa nd (-1)) := Or.inl ⟨by unfold idS; rw [if_neg (by omega), if_neg (fun h => h (by assumption)), if_neg (by omega)], rfl, rfl, rfl, by unfold parI; first | rw [if_pos (by assumption)] | rw [if_neg (by assumption)]⟩
            exact W.iret (v := nI 0) hx hb hr (fun t ht hW => ⟨⟨nI 0, (of, va_up tg nd (row pl), upd pa nd (-1)), rfl, hq9, by rw [ht]; exact hP9, va_K.moved hW.alike hK, hD9⟩, hS.F ht⟩) hS.2.2 dX0_readIdentifier_111
        · refine lv_aload_n hx hb dX0_readIdentifier_56 rfl (lv_at hl 0 rfl) ?_
          refine lv_bipush (v := (-7)) hx hb dX0_readIdentifier_57 (by decide) ?_
          refine lv_iload_n hx hb dX0_readIdentifier_59 rfl (lv_at hl 1 rfl) ?_
          refine cl_Vi (As := [.int (-7), .int (nI pl)]) (rest := []) (wr := []) ⟨hx, hb, hml, hown, hts⟩ (k_X0_offend l dC dI cA r0 r1 r2 r3 r4 r5 r6 row rs tg st ln pa nd ar lv of (-7) (nI pl) _ ) (cwV 2 hts gX0_readIdentifier_X0_offend rfl rfl rfl (by decide +kernel) ⟨Nat.le_of_ble_eq_true rfl, Nat.le_of_ble_eq_true rfl⟩) hK hP hD hS hA [0, 1, 2, 3, 4, 5, 6] [] rfl rfl (by decide) (by decide) (by decide) (ci := 0) (q0 := 0) rfl rfl rfl rfl hl.1 rfl (Nat.le_of_ble_eq_true rfl) dX0_readIdentifier_60 ⟨Nat.le_of_ble_eq_true rfl, Nat.le_of_ble_eq_true rfl⟩ (fun r_12 u_12 H locs hw_12 hP hD hS => ?_)
          obtain ⟨of2_12, eu_12⟩ : ∃ z, z = u_12 := ⟨_, rfl⟩
          subst eu_12
          have hP : va_P (dC, dI) vwCl (wR cA r0 r1 r2 r3 r4 r5 r6 row rs tg st ln pa nd ar lv of2_12) H := hP
          have hD : va_D A (wR cA r0 r1 r2 r3 r4 r5 r6 row rs tg st ln pa nd ar lv of2_12) := hD
          have hw_12 : r_12 = (-7) ∧ of2_12 = (nI pl) := hw_12
          obtain ⟨e0_12, e1_12⟩ := hw_12
          have e0_12 := e0_12.symm
          subst e0_12
          have e1_12 := e1_12.symm
          subst e1_12
          have hP9 : va_P (dC, dI) vwCl (vX0_readIdentifier cA r0 r1 r2 r3 r4 r5 r6 row rs tg st ln pa nd ar lv of pl ((nI pl), tg, pa)) _ := hP
          have hD9 : va_D A (vX0_readIdentifier cA r0 r1 r2 r3 r4 r5 r6 row rs tg st ln pa nd ar lv of pl ((nI pl), tg, pa)) := hD
          have hq9 : pX0_readIdentifier r0 r1 r2 r3 r4 r5 r6 row rs tg st ln pa nd ar lv of pl ((-7)) ((nI pl), tg, pa) := Or.inr ⟨by unfold idS; rw [if_neg (by omega), if_neg (fun h => h (by assumption)), if_pos (by omega)], by decide, rfl, rfl⟩
          exact W.iret (v := (-7)) hx hb hr (fun t ht hW => ⟨⟨(-7), ((nI pl), tg, pa), rfl, hq9, by rw [ht]; exact hP9, va_K.moved hW.alike hK, hD9⟩, hS.F ht⟩) hS.2.2 dX0_readIdentifier_63
    · refine lv_aload_n hx hb dX0_readIdentifier_30 rfl (lv_at hl 0 rfl) ?_
      refine lv_bipush (v := (-2)) hx hb dX0_readIdentifier_31 (by decide) ?_
      refine lv_iload_n hx hb dX0_readIdentifier_33 rfl (lv_at hl 1 rfl) ?_
      refine cl_Vi (As := [.int (-2), .int (nI pl)]) (rest := []) (wr := []) ⟨hx, hb, hml, hown, hts⟩ (k_X0_offend l dC dI cA r0 r1 r2 r3 r4 r5 r6 row rs tg st ln pa nd ar lv of (-2) (nI pl) _ ) (cwV 2 hts gX0_readIdentifier_X0_offend rfl rfl rfl (by decide +kernel) ⟨Nat.le_of_ble_eq_true rfl, Nat.le_of_ble_eq_true rfl⟩) hK hP hD hS hA [0, 1, 2, 3, 4, 5, 6] [] rfl rfl (by decide) (by decide) (by decide) (ci := 0) (q0 := 0) rfl rfl rfl rfl hl.1 rfl (Nat.le_of_ble_eq_true rfl) dX0_readIdentifier_34 ⟨Nat.le_of_ble_eq_true rfl, Nat.le_of_ble_eq_true rfl⟩ (fun r_13 u_13 H locs hw_13 hP hD hS => ?_)
      obtain ⟨of2_13, eu_13⟩ : ∃ z, z = u_13 := ⟨_, rfl⟩
      subst eu_13
      have hP : va_P (dC, dI) vwCl (wR cA r0 r1 r2 r3 r4 r5 r6 row rs tg st ln pa nd ar lv of2_13) H := hP
      have hD : va_D A (wR cA r0 r1 r2 r3 r4 r5 r6 row rs tg st ln pa nd ar lv of2_13) := hD
      have hw_13 : r_13 = (-2) ∧ of2_13 = (nI pl) := hw_13
      obtain ⟨e0_13, e1_13⟩ := hw_13
      have e0_13 := e0_13.symm
      subst e0_13
      have e1_13 := e1_13.symm
      subst e1_13
      have hP9 : va_P (dC, dI) vwCl (vX0_readIdentifier cA r0 r1 r2 r3 r4 r5 r6 row rs tg st ln pa nd ar lv of pl ((nI pl), tg, pa)) _ := hP
      have hD9 : va_D A (vX0_readIdentifier cA r0 r1 r2 r3 r4 r5 r6 row rs tg st ln pa nd ar lv of pl ((nI pl), tg, pa)) := hD
      have hq9 : pX0_readIdentifier r0 r1 r2 r3 r4 r5 r6 row rs tg st ln pa nd ar lv of pl ((-2)) ((nI pl), tg, pa) := Or.inr ⟨by unfold idS; rw [if_neg (by omega), if_pos (by assumption)], by decide, rfl, rfl⟩
      exact W.iret (v := (-2)) hx hb hr (fun t ht hW => ⟨⟨(-2), ((nI pl), tg, pa), rfl, hq9, by rw [ht]; exact hP9, va_K.moved hW.alike hK, hD9⟩, hS.F ht⟩) hS.2.2 dX0_readIdentifier_37
  · refine lv_aload_n hx hb dX0_readIdentifier_8 rfl (lv_at hl 0 rfl) ?_
    refine lv_iconst (v := (-1)) hx hb dX0_readIdentifier_9 (by decide) ?_
    refine lv_aload_n hx hb dX0_readIdentifier_10 rfl (lv_at hl 0 rfl) ?_
    refine va_get (D := (dC, dI)) (ci := 0) (v := .int (nI rs)) (C := RX0) (T := TX0) (N := 10) hx hb hts hinX0 hown hK hP 0 rfl rfl 1 (by decide) hf_15 (fun _ h9 => h9) rfl dX0_readIdentifier_11 ?_
    refine cl_Vi (As := [.int (-1), .int (nI rs)]) (rest := []) (wr := []) ⟨hx, hb, hml, hown, hts⟩ (k_X0_offend l dC dI cA r0 r1 r2 r3 r4 r5 r6 row rs tg st ln pa nd ar lv of (-1) (nI rs) _ ) (cwV 2 hts gX0_readIdentifier_X0_offend rfl rfl rfl (by decide +kernel) ⟨Nat.le_of_ble_eq_true rfl, Nat.le_of_ble_eq_true rfl⟩) hK hP hD hS hA [0, 1, 2, 3, 4, 5, 6] [] rfl rfl (by decide) (by decide) (by decide) (ci := 0) (q0 := 0) rfl rfl rfl rfl hl.1 rfl (Nat.le_of_ble_eq_true rfl) dX0_readIdentifier_14 ⟨Nat.le_of_ble_eq_true rfl, Nat.le_of_ble_eq_true rfl⟩ (fun r_14 u_14 H locs hw_14 hP hD hS => ?_)
    obtain ⟨of2_14, eu_14⟩ : ∃ z, z = u_14 := ⟨_, rfl⟩
    subst eu_14
    have hP : va_P (dC, dI) vwCl (wR cA r0 r1 r2 r3 r4 r5 r6 row rs tg st ln pa nd ar lv of2_14) H := hP
    have hD : va_D A (wR cA r0 r1 r2 r3 r4 r5 r6 row rs tg st ln pa nd ar lv of2_14) := hD
    have hw_14 : r_14 = (-1) ∧ of2_14 = (nI rs) := hw_14
    obtain ⟨e0_14, e1_14⟩ := hw_14
    have e0_14 := e0_14.symm
    subst e0_14
    have e1_14 := e1_14.symm
    subst e1_14
    have hP9 : va_P (dC, dI) vwCl (vX0_readIdentifier cA r0 r1 r2 r3 r4 r5 r6 row rs tg st ln pa nd ar lv of pl ((nI rs), tg, pa)) _ := hP
    have hD9 : va_D A (vX0_readIdentifier cA r0 r1 r2 r3 r4 r5 r6 row rs tg st ln pa nd ar lv of pl ((nI rs), tg, pa)) := hD
    have hq9 : pX0_readIdentifier r0 r1 r2 r3 r4 r5 r6 row rs tg st ln pa nd ar lv of pl ((-1)) ((nI rs), tg, pa) := Or.inr ⟨by unfold idS; rw [if_pos (by omega)], by decide, rfl, rfl⟩
    exact W.iret (v := (-1)) hx hb hr (fun t ht hW => ⟨⟨(-1), ((nI rs), tg, pa), rfl, hq9, by rw [ht]; exact hP9, va_K.moved hW.alike hK, hD9⟩, hS.F ht⟩) hS.2.2 dX0_readIdentifier_17
abbrev pX0_readLength (r0 : Nat) (r1 : Nat) (r2 : Nat) (r3 : Nat) (r4 : Nat) (r5 : Nat) (r6 : Nat) (row : Nat → Nat) (rs : Nat) (tg : Nat → Nat) (st : Nat → Nat) (ln : Nat → Nat) (pa : Nat → Int32) (nd : Nat) (ar : Nat → Nat) (lv : Nat) (of : Int32) (pl : Nat) : Int32 → Int32 × (Nat → Nat) × (Nat → Nat) × Nat × Nat → Prop := fun (r : Int32) (u : Int32 × (Nat → Nat) × (Nat → Nat) × Nat × Nat) => match u with | (of2, st2, ln2, xn, xa) => (lenS row (limN rs lv ar st ln) lv rs pl = .inr (xn, xa) ∧ r = nI 0 ∧ of2 = of ∧ st2 = va_up st nd xa ∧ ln2 = va_up ln nd xn) ∨ (lenS row (limN rs lv ar st ln) lv rs pl = .inl (r, of2) ∧ r ≠ 0 ∧ st2 = st ∧ ln2 = ln)
abbrev vX0_readLength (cA : ClassId) (r0 : Nat) (r1 : Nat) (r2 : Nat) (r3 : Nat) (r4 : Nat) (r5 : Nat) (r6 : Nat) (row : Nat → Nat) (rs : Nat) (tg : Nat → Nat) (st : Nat → Nat) (ln : Nat → Nat) (pa : Nat → Int32) (nd : Nat) (ar : Nat → Nat) (lv : Nat) (of : Int32) (pl : Nat) : Int32 × (Nat → Nat) × (Nat → Nat) × Nat × Nat → va_W := fun (u : Int32 × (Nat → Nat) × (Nat → Nat) × Nat × Nat) => match u with | (of2, st2, ln2, xn, xa) => wR cA r0 r1 r2 r3 r4 r5 r6 row rs tg st2 ln2 pa nd ar lv of2
abbrev qX0_readLength (dC : Nat → ClassId) (dI : Nat → Nat → Nat) (cA : ClassId) (A : Nat → Prop) (r0 : Nat) (r1 : Nat) (r2 : Nat) (r3 : Nat) (r4 : Nat) (r5 : Nat) (r6 : Nat) (row : Nat → Nat) (rs : Nat) (tg : Nat → Nat) (st : Nat → Nat) (ln : Nat → Nat) (pa : Nat → Int32) (nd : Nat) (ar : Nat → Nat) (lv : Nat) (of : Int32) (pl : Nat) : Array Value → State → Outcome → State → Prop := va_Qi (pX0_readLength r0 r1 r2 r3 r4 r5 r6 row rs tg st ln pa nd ar lv of pl) (fun u => cAft dC dI cA A (vX0_readLength cA r0 r1 r2 r3 r4 r5 r6 row rs tg st ln pa nd ar lv of pl u)) A
set_option maxHeartbeats 4000000 in
set_option maxRecDepth 100000 in
theorem k_X0_readLength (l : Launch) (dC : Nat → ClassId) (dI : Nat → Nat → Nat) (cA : ClassId) (r0 : Nat) (r1 : Nat) (r2 : Nat) (r3 : Nat) (r4 : Nat) (r5 : Nat) (r6 : Nat) (row : Nat → Nat) (rs : Nat) (tg : Nat → Nat) (st : Nat → Nat) (ln : Nat → Nat) (pa : Nat → Int32) (nd : Nat) (ar : Nat → Nat) (lv : Nat) (of : Int32) (pl : Nat) (sz : Nat) (hrow : ∀ j, row j < 256) (htg : ∀ j, tg j < 256) (hst : ∀ j, st j < 1000) (hln : ∀ j, ln j < 65536) (har : ∀ j, ar j < 64) (hnd : nd < 64) (hlv : lv ≤ 16) (hpl : pl ≤ 300) (hlim : limN rs lv ar st ln ≤ 300) : Met l yX0_readLength wsX0_readLength ({ frames := 2, cells := 0, slots := 0, locals := 43 } : Room) (va_Pc [.ref r0, .int (nI pl)] (cPre dC dI cA (wR cA r0 r1 r2 r3 r4 r5 r6 row rs tg st ln pa nd ar lv of) sz)) (qX0_readLength dC dI cA (va_A (wR cA r0 r1 r2 r3 r4 r5 r6 row rs tg st ln pa nd ar lv of) sz) r0 r1 r2 r3 r4 r5 r6 row rs tg st ln pa nd ar lv of pl) 0 0 (va_A (wR cA r0 r1 r2 r3 r4 r5 r6 row rs tg st ln pa nd ar lv of) sz) := by
  refine Met.ofW (cc := cX0_readLength) (maxL := 7) (ret := (some .int)) (by decide) rfl ?_
  intro p e s m args below meth c s₁ B hml hv
  obtain ⟨rfl, hsz, hP, hK, hD0⟩ := hv
  have hx := B.exec
  have hb := B.bytes
  have hr := B.returns
  have hts := atoms_spec (ws := wsX0_readLength) B.pre
  have hown : s.vm.findClass RX0 = some m.cls := findClass_of_methodNamed B.named
  have hlocks := B.notSynchronized
  subst hsz
  have hD := hD0.self (sz := s.heap.size)
  generalize hAe : va_A (wR cA r0 r1 r2 r3 r4 r5 r6 row rs tg st ln pa nd ar lv of) s.heap.size = A at hD ⊢
  have hA : ∀ q : Nat, s.heap.size ≤ q → A q := fun q h => by rw [← hAe]; exact Or.inr h
  have hS : va_S A s.heap s.heap [] := va_S.rf
  have hl := lv_entry ([.ref r0, .int (nI pl)]) (n := 7) (Nat.le_of_ble_eq_true rfl)
  rw [lg_entry_eq]
  generalize (lg_sl ([.ref r0, .int (nI pl)]) ++ List.replicate (7 - (lg_sl ([.ref r0, .int (nI pl)])).length) Slot.unset).toArray = ls at hl ⊢
  have hl : lv_has ls 7 [(0, .ref r0), (1, .int (nI pl))] := hl
  have hinX0 : ∀ w ∈ wsX00, w ∈ wsX0_readLength := fun _ h => List.mem_cons_of_mem _ (List.mem_append_right _ h)
  have hf_9 := hts (.fieldLink RX0 9 "DerDesk$Reader" "row" "[I") (by decide +kernel)
  have hf_22 := hts (.fieldLink RX0 22 "DerDesk$Reader" "starts" "[I") (by decide +kernel)
  have hf_25 := hts (.fieldLink RX0 25 "DerDesk$Reader" "lengths" "[I") (by decide +kernel)
  have hf_31 := hts (.fieldLink RX0 31 "DerDesk$Reader" "nodes" "I") (by decide +kernel)
  have hP : va_P (dC, dI) vwCl (wR cA r0 r1 r2 r3 r4 r5 r6 row rs tg st ln pa nd ar lv of) s.heap := hP
  refine lv_iload_n hx hb dX0_readLength_0 rfl (lv_at hl 1 rfl) ?_
  refine lv_iconst (v := nI 1) hx hb dX0_readLength_1 (by decide) ?_
  refine hl_iadd hx hb dX0_readLength_2 ?_
  refine lv_istore_n (lv' := [(2, .int (nI (pl + 1))), (0, .ref r0), (1, .int (nI pl))]) hx hb dX0_readLength_3 rfl hl (by decide) rfl (fun ls hl => ?_)
  refine lv_aload_n hx hb dX0_readLength_4 rfl (lv_at hl 1 rfl) ?_
  refine cl_Vi (As := []) (rest := []) (wr := []) ⟨hx, hb, hml, hown, hts⟩ (k_X0_limitHere l dC dI cA r0 r1 r2 r3 r4 r5 r6 row rs tg st ln pa nd ar lv of _ (by omega) (fun j _ => har j)) (cwV 0 hts gX0_readLength_X0_limitHere rfl rfl rfl (by decide +kernel) ⟨Nat.le_of_ble_eq_true rfl, Nat.le_of_ble_eq_true rfl⟩) hK hP hD hS hA [0, 1, 2, 3, 4, 5, 6] [] rfl rfl (by decide) (by decide) (by decide) (ci := 0) (q0 := 0) rfl rfl rfl rfl hl.1 rfl (Nat.le_of_ble_eq_true rfl) dX0_readLength_5 ⟨Nat.le_of_ble_eq_true rfl, Nat.le_of_ble_eq_true rfl⟩ (fun r_1 u_1 H locs hw_1 hP hD hS => ?_)
  have hP : va_P (dC, dI) vwCl (wR cA r0 r1 r2 r3 r4 r5 r6 row rs tg st ln pa nd ar lv of) H := hP
  have hD : va_D A (wR cA r0 r1 r2 r3 r4 r5 r6 row rs tg st ln pa nd ar lv of) := hD
  have hw_1 : r_1 = nI (limN rs lv ar st ln) := hw_1
  have hw_1 := hw_1.symm
  subst hw_1
  refine lv_istore_n (lv' := [(3, .int (nI (limN rs lv ar st ln))), (2, .int (nI (pl + 1))), (0, .ref r0), (1, .int (nI pl))]) hx hb dX0_readLength_8 rfl hl (by decide) rfl (fun ls hl => ?_)
  refine lv_iload_n hx hb dX0_readLength_9 rfl (lv_at hl 1 rfl) ?_
  refine lv_iload_n hx hb dX0_readLength_10 rfl (lv_at hl 0 rfl) ?_
  refine hl_icmp_lt (tgt := 20) hx hb dX0_readLength_11 (by decide) (by omega) (by omega) (fun c_2 => ?_) (fun c_2 => ?_)
  · refine lv_aload_n hx hb dX0_readLength_20 rfl (lv_at hl 2 rfl) ?_
    refine va_get (D := (dC, dI)) (ci := 0) (v := .ref r1) (C := RX0) (T := TX0) (N := 10) hx hb hts hinX0 hown hK hP 0 rfl rfl 0 (by decide) hf_9 (fun _ h9 => h9) rfl dX0_readLength_21 ?_
    refine lv_iload_n hx hb dX0_readLength_24 rfl (lv_at hl 1 rfl) ?_
    refine hl_iald hx hb hK hP 1 0 rfl rfl (by omega) (by decide) dX0_readLength_25 ?_
    have hv_3 := hrow (pl + 1)
    refine lv_istore (lv' := [(4, .int (nI (row (pl + 1)))), (3, .int (nI (limN rs lv ar st ln))), (2, .int (nI (pl + 1))), (0, .ref r0), (1, .int (nI pl))]) hx hb dX0_readLength_26 hl (by decide) rfl (fun ls hl => ?_)
    refine lv_iload hx hb dX0_readLength_28 (lv_at hl 0 rfl) ?_
    refine lv_sipush (v := nI 128) hx hb dX0_readLength_30 (by decide) ?_
    refine hl_icmp_eq (tgt := 44) hx hb dX0_readLength_33 (by decide) (by omega) (by omega) (fun c_4 => ?_) (fun c_4 => ?_)
    · refine lv_aload_n hx hb dX0_readLength_44 rfl (lv_at hl 3 rfl) ?_
      refine lv_bipush (v := (-3)) hx hb dX0_readLength_45 (by decide) ?_
      refine lv_iload_n hx hb dX0_readLength_47 rfl (lv_at hl 2 rfl) ?_
      refine cl_Vi (As := [.int (-3), .int (nI (pl + 1))]) (rest := []) (wr := []) ⟨hx, hb, hml, hown, hts⟩ (k_X0_offend l dC dI cA r0 r1 r2 r3 r4 r5 r6 row rs tg st ln pa nd ar lv of (-3) (nI (pl + 1)) _ ) (cwV 2 hts gX0_readLength_X0_offend rfl rfl rfl (by decide +kernel) ⟨Nat.le_of_ble_eq_true rfl, Nat.le_of_ble_eq_true rfl⟩) hK hP hD hS hA [0, 1, 2, 3, 4, 5, 6] [] rfl rfl (by decide) (by decide) (by decide) (ci := 0) (q0 := 0) rfl rfl rfl rfl hl.1 rfl (Nat.le_of_ble_eq_true rfl) dX0_readLength_48 ⟨Nat.le_of_ble_eq_true rfl, Nat.le_of_ble_eq_true rfl⟩ (fun r_5 u_5 H locs hw_5 hP hD hS => ?_)
      obtain ⟨of2_5, eu_5⟩ : ∃ z, z = u_5 := ⟨_, rfl⟩
      subst eu_5
      have hP : va_P (dC, dI) vwCl (wR cA r0 r1 r2 r3 r4 r5 r6 row rs tg st ln pa nd ar lv of2_5) H := hP
      have hD : va_D A (wR cA r0 r1 r2 r3 r4 r5 r6 row rs tg st ln pa nd ar lv of2_5) := hD
      have hw_5 : r_5 = (-3) ∧ of2_5 = (nI (pl + 1)) := hw_5
      obtain ⟨e0_5, e1_5⟩ := hw_5
      have e0_5 := e0_5.symm
      subst e0_5
      have e1_5 := e1_5.symm
      subst e1_5
      have hP9 : va_P (dC, dI) vwCl (vX0_readLength cA r0 r1 r2 r3 r4 r5 r6 row rs tg st ln pa nd ar lv of pl ((nI (pl + 1)), st, ln, 0, 0)) _ := hP
      have hD9 : va_D A (vX0_readLength cA r0 r1 r2 r3 r4 r5 r6 row rs tg st ln pa nd ar lv of pl ((nI (pl + 1)), st, ln, 0, 0)) := hD
      have hq9 : pX0_readLength r0 r1 r2 r3 r4 r5 r6 row rs tg st ln pa nd ar lv of pl ((-3)) ((nI (pl + 1)), st, ln, 0, 0) := Or.inr ⟨by unfold lenS; rw [if_neg (by omega), if_pos (by omega)], by decide, rfl, rfl⟩
      exact W.iret (v := (-3)) hx hb hr (fun t ht hW => ⟨⟨(-3), ((nI (pl + 1)), st, ln, 0, 0), rfl, hq9, by rw [ht]; exact hP9, va_K.moved hW.alike hK, hD9⟩, hS.F ht⟩) hS.2.2 dX0_readLength_51
    · refine lv_iload hx hb dX0_readLength_36 (lv_at hl 0 rfl) ?_
      refine lv_sipush (v := nI 130) hx hb dX0_readLength_38 (by decide) ?_
      refine hl_icmp_le (tgt := 52) hx hb dX0_readLength_41 (by decide) (by omega) (by omega) (fun c_6 => ?_) (fun c_6 => ?_)
      · refine lv_iload hx hb dX0_readLength_52 (lv_at hl 0 rfl) ?_
        refine lv_sipush (v := nI 128) hx hb dX0_readLength_54 (by decide) ?_
        refine hl_icmp_ge (tgt := 64) hx hb dX0_readLength_57 (by decide) (by omega) (by omega) (fun c_7 => ?_) (fun c_7 => ?_)
        · refine lv_iload hx hb dX0_readLength_64 (lv_at hl 0 rfl) ?_
          refine lv_sipush (v := nI 128) hx hb dX0_readLength_66 (by decide) ?_
          refine hl_isub hx hb (by omega) dX0_readLength_69 ?_
          refine lv_istore (lv' := [(5, .int (nI ((row (pl + 1)) - 128))), (4, .int (nI (row (pl + 1)))), (3, .int (nI (limN rs lv ar st ln))), (2, .int (nI (pl + 1))), (0, .ref r0), (1, .int (nI pl))]) hx hb dX0_readLength_70 hl (by decide) rfl (fun ls hl => ?_)
          refine lv_iload_n hx hb dX0_readLength_72 rfl (lv_at hl 3 rfl) ?_
          refine lv_iload hx hb dX0_readLength_73 (lv_at hl 0 rfl) ?_
          refine hl_iadd hx hb dX0_readLength_75 ?_
          refine lv_iload_n hx hb dX0_readLength_76 rfl (lv_at hl 2 rfl) ?_
          refine hl_icmp_lt (tgt := 86) hx hb dX0_readLength_77 (by decide) (by omega) (by omega) (fun c_8 => ?_) (fun c_8 => ?_)
          · refine lv_iload hx hb dX0_readLength_86 (lv_at hl 0 rfl) ?_
            refine hl_if_ne (tgt := 96) hx hb dX0_readLength_88 (by decide) (by omega) (fun c_9 => ?_) (fun c_9 => absurd c_9 (by omega))
            refine lv_aload_n hx hb dX0_readLength_96 rfl (lv_at hl 4 rfl) ?_
            refine lv_iload_n hx hb dX0_readLength_97 rfl (lv_at hl 3 rfl) ?_
            refine lv_iconst (v := nI 1) hx hb dX0_readLength_98 (by decide) ?_
            refine hl_iadd hx hb dX0_readLength_99 ?_
            refine lv_iload hx hb dX0_readLength_100 (lv_at hl 0 rfl) ?_
            refine cl_Vi (As := [.int (nI ((pl + 1) + 1)), .int (nI ((row (pl + 1)) - 128))]) (rest := []) (wr := []) ⟨hx, hb, hml, hown, hts⟩ (k_X0_numberAt l dC dI cA r0 r1 r2 r3 r4 r5 r6 row rs tg st ln pa nd ar lv of ((pl + 1) + 1) ((row (pl + 1)) - 128) _ hrow (by omega) (by omega)) (cwV 2 hts gX0_readLength_X0_numberAt rfl rfl rfl (by decide +kernel) ⟨Nat.le_of_ble_eq_true rfl, Nat.le_of_ble_eq_true rfl⟩) hK hP hD hS hA [0, 1, 2, 3, 4, 5, 6] [] rfl rfl (by decide) (by decide) (by decide) (ci := 0) (q0 := 0) rfl rfl rfl rfl hl.1 rfl (Nat.le_of_ble_eq_true rfl) dX0_readLength_102 ⟨Nat.le_of_ble_eq_true rfl, Nat.le_of_ble_eq_true rfl⟩ (fun r_10 u_10 H locs hw_10 hP hD hS => ?_)
            have hP : va_P (dC, dI) vwCl (wR cA r0 r1 r2 r3 r4 r5 r6 row rs tg st ln pa nd ar lv of) H := hP
            have hD : va_D A (wR cA r0 r1 r2 r3 r4 r5 r6 row rs tg st ln pa nd ar lv of) := hD
            have hw_10 : r_10 = nI (numN row ((pl + 1) + 1) ((row (pl + 1)) - 128)) := hw_10
            have hw_10 := hw_10.symm
            subst hw_10
            have hn16 := num16 hrow (p := ((pl + 1) + 1)) (k := ((row (pl + 1)) - 128)) (by omega)
            refine lv_istore (lv' := [(6, .int (nI (numN row ((pl + 1) + 1) ((row (pl + 1)) - 128)))), (5, .int (nI ((row (pl + 1)) - 128))), (4, .int (nI (row (pl + 1)))), (3, .int (nI (limN rs lv ar st ln))), (2, .int (nI (pl + 1))), (0, .ref r0), (1, .int (nI pl))]) hx hb dX0_readLength_105 hl (by decide) rfl (fun ls hl => ?_)
            refine lv_iload hx hb dX0_readLength_107 (lv_at hl 0 rfl) ?_
            refine cl_Si (As := [.int (nI (numN row ((pl + 1) + 1) ((row (pl + 1)) - 128)))]) (rest := []) (wr := [(r0, .inr (0, [.ref r1, .int (nI rs), .ref r2, .ref r3, .ref r4, .ref r5, .int (nI nd), .ref r6, .int (nI lv), .int of])), (r1, .inl (cA, 300, .inl (nA row))), (r2, .inl (cA, 64, .inl (nA tg))), (r3, .inl (cA, 64, .inl (nA st))), (r4, .inl (cA, 64, .inl (nA ln))), (r5, .inl (cA, 64, .inl (pa))), (r6, .inl (cA, 16, .inl (nA ar)))]) ⟨hx, hb, hml, hown, hts⟩ (k_X1_lengthSize l dC dI cA (numN row ((pl + 1) + 1) ((row (pl + 1)) - 128)) _ (by omega)) (va_cwS 1 hts gX0_readLength_X1_lengthSize rfl rfl rfl (by decide +kernel) ⟨Nat.le_of_ble_eq_true rfl, Nat.le_of_ble_eq_true rfl⟩) hK hP hD hS hA [] [0, 1, 2, 3, 4, 5, 6] rfl rfl (by decide) (by decide) (by decide) rfl hl.1 rfl (Nat.le_of_ble_eq_true rfl) dX0_readLength_109 ⟨Nat.le_of_ble_eq_true rfl, Nat.le_of_ble_eq_true rfl⟩ (fun r_11 u_11 H locs hw_11 hP hD hS => ?_)
            have hP : va_P (dC, dI) vwCl (wR cA r0 r1 r2 r3 r4 r5 r6 row rs tg st ln pa nd ar lv of) H := hP
            have hD : va_D A (wR cA r0 r1 r2 r3 r4 r5 r6 row rs tg st ln pa nd ar lv of) := hD
            have hw_11 : r_11 = nI (lenSz (numN row ((pl + 1) + 1) ((row (pl + 1)) - 128))) := hw_11
            have hw_11 := hw_11.symm
            subst hw_11
            have hz_11 := lenSz_le (numN row ((pl + 1) + 1) ((row (pl + 1)) - 128))
            refine lv_iconst (v := nI 1) hx hb dX0_readLength_112 (by decide) ?_
            refine lv_iload hx hb dX0_readLength_113 (lv_at hl 1 rfl) ?_
            refine hl_iadd hx hb dX0_readLength_115 ?_
            refine hl_icmp_eq (tgt := 127) hx hb dX0_readLength_116 (by decide) (by omega) (by omega) (fun c_12 => ?_) (fun c_12 => ?_)
            · refine lv_aload_n hx hb dX0_readLength_127 rfl (lv_at hl 5 rfl) ?_
              refine va_get (D := (dC, dI)) (ci := 0) (v := .ref r3) (C := RX0) (T := TX0) (N := 10) hx hb hts hinX0 hown hK hP 0 rfl rfl 3 (by decide) hf_22 (fun _ h9 => h9) rfl dX0_readLength_128 ?_
              refine lv_aload_n hx hb dX0_readLength_131 rfl (lv_at hl 5 rfl) ?_
              refine va_get (D := (dC, dI)) (ci := 0) (v := .int (nI nd)) (C := RX0) (T := TX0) (N := 10) hx hb hts hinX0 hown hK hP 0 rfl rfl 6 (by decide) hf_31 (fun _ h9 => h9) rfl dX0_readLength_132 ?_
              refine lv_iload_n hx hb dX0_readLength_135 rfl (lv_at hl 4 rfl) ?_
              refine lv_iload hx hb dX0_readLength_136 (lv_at hl 1 rfl) ?_
              refine hl_iadd hx hb dX0_readLength_138 ?_
              refine lv_iconst (v := nI 1) hx hb dX0_readLength_139 (by decide) ?_
              refine hl_iadd hx hb dX0_readLength_140 ?_
              refine hl_iast hx hb hK hP hD hS 3 0 rfl rfl (by omega) (by decide) dX0_readLength_141 (fun H locs hP hD hS => ?_)
              have hP : va_P (dC, dI) vwCl (wR cA r0 r1 r2 r3 r4 r5 r6 row rs tg (va_up st nd (((pl + 1) + ((row (pl + 1)) - 128)) + 1)) ln pa nd ar lv of) H := hP
              have hD : va_D A (wR cA r0 r1 r2 r3 r4 r5 r6 row rs tg (va_up st nd (((pl + 1) + ((row (pl + 1)) - 128)) + 1)) ln pa nd ar lv of) := hD
              have hB_13 := up_lt hst (k := nd) (x := (((pl + 1) + ((row (pl + 1)) - 128)) + 1)) (by omega)
              refine lv_aload_n hx hb dX0_readLength_142 rfl (lv_at hl 5 rfl) ?_
              refine va_get (D := (dC, dI)) (ci := 0) (v := .ref r4) (C := RX0) (T := TX0) (N := 10) hx hb hts hinX0 hown hK hP 0 rfl rfl 4 (by decide) hf_25 (fun _ h9 => h9) rfl dX0_readLength_143 ?_
              refine lv_aload_n hx hb dX0_readLength_146 rfl (lv_at hl 5 rfl) ?_
              refine va_get (D := (dC, dI)) (ci := 0) (v := .int (nI nd)) (C := RX0) (T := TX0) (N := 10) hx hb hts hinX0 hown hK hP 0 rfl rfl 6 (by decide) hf_31 (fun _ h9 => h9) rfl dX0_readLength_147 ?_
              refine lv_iload hx hb dX0_readLength_150 (lv_at hl 0 rfl) ?_
              refine hl_iast hx hb hK hP hD hS 4 0 rfl rfl (by omega) (by decide) dX0_readLength_152 (fun H locs hP hD hS => ?_)
              have hP : va_P (dC, dI) vwCl (wR cA r0 r1 r2 r3 r4 r5 r6 row rs tg (va_up st nd (((pl + 1) + ((row (pl + 1)) - 128)) + 1)) (va_up ln nd (numN row ((pl + 1) + 1) ((row (pl + 1)) - 128))) pa nd ar lv of) H := hP
              have hD : va_D A (wR cA r0 r1 r2 r3 r4 r5 r6 row rs tg (va_up st nd (((pl + 1) + ((row (pl + 1)) - 128)) + 1)) (va_up ln nd (numN row ((pl + 1) + 1) ((row (pl + 1)) - 128))) pa nd ar lv of) := hD
              have hB_14 := up_lt hln (k := nd) (x := (numN row ((pl + 1) + 1) ((row (pl + 1)) - 128))) (by omega)
              refine lv_iconst (v := nI 0) hx hb dX0_readLength_153 (by decide) ?_
              have hP9 : va_P (dC, dI) vwCl (vX0_readLength cA r0 r1 r2 r3 r4 r5 r6 row rs tg st ln pa nd ar lv of pl (of, va_up st nd (((pl + 1) + ((row (pl + 1)) - 128)) + 1), va_up ln nd (numN row ((pl + 1) + 1) ((row (pl + 1)) - 128)), (numN row ((pl + 1) + 1) ((row (pl + 1)) - 128)), (((pl + 1) + ((row (pl + 1)) - 128)) + 1))) _ := hP
              have hD9 : va_D A (vX0_readLength cA r0 r1 r2 r3 r4 r5 r6 row rs tg st ln pa nd ar lv of pl (of, va_up st nd (((pl + 1) + ((row (pl + 1)) - 128)) + 1), va_up ln nd (numN row ((pl + 1) + 1) ((row (pl + 1)) - 128)), (numN row ((pl + 1) + 1) ((row (pl + 1)) - 128)), (((pl + 1) + ((row (pl + 1)) - 128)) + 1))) := hD
              have hq9 : pX0_readLength r0 r1 r2 r3 r4 r5 r6 row rs tg st ln pa nd ar lv of pl (nI 0) (of, va_up st nd (((pl + 1) + ((row (pl + 1)) - 128)) + 1), va_up ln nd (numN row ((pl + 1) + 1) ((row (pl + 1)) - 128)), (numN row ((pl + 1) + 1) ((row (pl + 1)) - 128)), (((pl + 1) + ((row (pl + 1)) - 128)) + 1)) := Or.inl ⟨by unfold lenS; rw [if_neg (by omega), if_neg (by omega), if_neg (by omega), if_neg (by omega), if_neg (fun h => h (by assumption))], rfl, rfl, rfl, rfl⟩
              exact W.iret (v := nI 0) hx hb hr (fun t ht hW => ⟨⟨nI 0, (of, va_up st nd (((pl + 1) + ((row (pl + 1)) - 128)) + 1), va_up ln nd (numN row ((pl + 1) + 1) ((row (pl + 1)) - 128)), (numN row ((pl + 1) + 1) ((row (pl + 1)) - 128)), (((pl + 1) + ((row (pl + 1)) - 128)) + 1)), rfl, hq9, by rw [ht]; exact hP9, va_K.moved hW.alike hK, hD9⟩, hS.F ht⟩) hS.2.2 dX0_readLength_154
            · refine lv_aload_n hx hb dX0_readLength_119 rfl (lv_at hl 5 rfl) ?_
              refine lv_bipush (v := (-3)) hx hb dX0_readLength_120 (by decide) ?_
              refine lv_iload_n hx hb dX0_readLength_122 rfl (lv_at hl 4 rfl) ?_
              refine cl_Vi (As := [.int (-3), .int (nI (pl + 1))]) (rest := []) (wr := []) ⟨hx, hb, hml, hown, hts⟩ (k_X0_offend l dC dI cA r0 r1 r2 r3 r4 r5 r6 row rs tg st ln pa nd ar lv of (-3) (nI (pl + 1)) _ ) (cwV 2 hts gX0_readLength_X0_offend rfl rfl rfl (by decide +kernel) ⟨Nat.le_of_ble_eq_true rfl, Nat.le_of_ble_eq_true rfl⟩) hK hP hD hS hA [0, 1, 2, 3, 4, 5, 6] [] rfl rfl (by decide) (by decide) (by decide) (ci := 0) (q0 := 0) rfl rfl rfl rfl hl.1 rfl (Nat.le_of_ble_eq_true rfl) dX0_readLength_123 ⟨Nat.le_of_ble_eq_true rfl, Nat.le_of_ble_eq_true rfl⟩ (fun r_15 u_15 H locs hw_15 hP hD hS => ?_)
              obtain ⟨of2_15, eu_15⟩ : ∃ z, z = u_15 := ⟨_, rfl⟩
              subst eu_15
              have hP : va_P (dC, dI) vwCl (wR cA r0 r1 r2 r3 r4 r5 r6 row rs tg st ln pa nd ar lv of2_15) H := hP
              have hD : va_D A (wR cA r0 r1 r2 r3 r4 r5 r6 row rs tg st ln pa nd ar lv of2_15) := hD
              have hw_15 : r_15 = (-3) ∧ of2_15 = (nI (pl + 1)) := hw_15
              obtain ⟨e0_15, e1_15⟩ := hw_15
              have e0_15 := e0_15.symm
              subst e0_15
              have e1_15 := e1_15.symm
              subst e1_15
              have hP9 : va_P (dC, dI) vwCl (vX0_readLength cA r0 r1 r2 r3 r4 r5 r6 row rs tg st ln pa nd ar lv of pl ((nI (pl + 1)), st, ln, 0, 0)) _ := hP
              have hD9 : va_D A (vX0_readLength cA r0 r1 r2 r3 r4 r5 r6 row rs tg st ln pa nd ar lv of pl ((nI (pl + 1)), st, ln, 0, 0)) := hD
              have hq9 : pX0_readLength r0 r1 r2 r3 r4 r5 r6 row rs tg st ln pa nd ar lv of pl ((-3)) ((nI (pl + 1)), st, ln, 0, 0) := Or.inr ⟨by unfold lenS; rw [if_neg (by omega), if_neg (by omega), if_neg (by omega), if_neg (by omega), if_pos (by assumption)], by decide, rfl, rfl⟩
              exact W.iret (v := (-3)) hx hb hr (fun t ht hW => ⟨⟨(-3), ((nI (pl + 1)), st, ln, 0, 0), rfl, hq9, by rw [ht]; exact hP9, va_K.moved hW.alike hK, hD9⟩, hS.F ht⟩) hS.2.2 dX0_readLength_126
          · refine lv_aload_n hx hb dX0_readLength_80 rfl (lv_at hl 4 rfl) ?_
            refine lv_iload_n hx hb dX0_readLength_81 rfl (lv_at hl 5 rfl) ?_
            refine cl_Vi (As := [.int (nI pl)]) (rest := []) (wr := []) ⟨hx, hb, hml, hown, hts⟩ (k_X0_offendByCutLength l dC dI cA r0 r1 r2 r3 r4 r5 r6 row rs tg st ln pa nd ar lv of pl _ (by omega)) (cwV 1 hts gX0_readLength_X0_offendByCutLength rfl rfl rfl (by decide +kernel) ⟨Nat.le_of_ble_eq_true rfl, Nat.le_of_ble_eq_true rfl⟩) hK hP hD hS hA [0, 1, 2, 3, 4, 5, 6] [] rfl rfl (by decide) (by decide) (by decide) (ci := 0) (q0 := 0) rfl rfl rfl rfl hl.1 rfl (Nat.le_of_ble_eq_true rfl) dX0_readLength_82 ⟨Nat.le_of_ble_eq_true rfl, Nat.le_of_ble_eq_true rfl⟩ (fun r_16 u_16 H locs hw_16 hP hD hS => ?_)
            obtain ⟨of2_16, eu_16⟩ : ∃ z, z = u_16 := ⟨_, rfl⟩
            subst eu_16
            have hP : va_P (dC, dI) vwCl (wR cA r0 r1 r2 r3 r4 r5 r6 row rs tg st ln pa nd ar lv of2_16) H := hP
            have hD : va_D A (wR cA r0 r1 r2 r3 r4 r5 r6 row rs tg st ln pa nd ar lv of2_16) := hD
            have hw_16 : (r_16, of2_16) = cutE lv rs pl := hw_16
            have hcut := hw_16
            have hP9 : va_P (dC, dI) vwCl (vX0_readLength cA r0 r1 r2 r3 r4 r5 r6 row rs tg st ln pa nd ar lv of pl (of2_16, st, ln, 0, 0)) _ := hP
            have hD9 : va_D A (vX0_readLength cA r0 r1 r2 r3 r4 r5 r6 row rs tg st ln pa nd ar lv of pl (of2_16, st, ln, 0, 0)) := hD
            have hq9 : pX0_readLength r0 r1 r2 r3 r4 r5 r6 row rs tg st ln pa nd ar lv of pl (r_16) (of2_16, st, ln, 0, 0) := Or.inr ⟨by unfold lenS; rw [if_neg (by omega), if_neg (by omega), if_neg (by omega), if_pos (by omega)]; exact congrArg _ hcut.symm, cutE_ne hcut, rfl, rfl⟩
            exact W.iret (v := r_16) hx hb hr (fun t ht hW => ⟨⟨r_16, (of2_16, st, ln, 0, 0), rfl, hq9, by rw [ht]; exact hP9, va_K.moved hW.alike hK, hD9⟩, hS.F ht⟩) hS.2.2 dX0_readLength_85
        · refine lv_iconst (v := nI 0) hx hb dX0_readLength_60 (by decide) ?_
          refine lv_goto (tgt := 70) hx hb dX0_readLength_61 (by decide) ?_
          refine lv_istore (lv' := [(5, .int (nI 0)), (4, .int (nI (row (pl + 1)))), (3, .int (nI (limN rs lv ar st ln))), (2, .int (nI (pl + 1))), (0, .ref r0), (1, .int (nI pl))]) hx hb dX0_readLength_70 hl (by decide) rfl (fun ls hl => ?_)
          refine lv_iload_n hx hb dX0_readLength_72 rfl (lv_at hl 3 rfl) ?_
          refine lv_iload hx hb dX0_readLength_73 (lv_at hl 0 rfl) ?_
          refine hl_iadd hx hb dX0_readLength_75 ?_
          refine lv_iload_n hx hb dX0_readLength_76 rfl (lv_at hl 2 rfl) ?_
          refine hl_icmp_lt (tgt := 86) hx hb dX0_readLength_77 (by decide) (by omega) (by omega) (fun c_17 => ?_) (fun c_17 => absurd (by omega) c_17)
          refine lv_iload hx hb dX0_readLength_86 (lv_at hl 0 rfl) ?_
          refine hl_if_ne (tgt := 96) hx hb dX0_readLength_88 (by decide) (by omega) (fun c_18 => absurd rfl c_18) (fun c_18 => ?_)
          refine lv_iload hx hb dX0_readLength_91 (lv_at hl 1 rfl) ?_
          refine lv_goto (tgt := 105) hx hb dX0_readLength_93 (by decide) ?_
          refine lv_istore (lv' := [(6, .int (nI (row (pl + 1)))), (5, .int (nI 0)), (4, .int (nI (row (pl + 1)))), (3, .int (nI (limN rs lv ar st ln))), (2, .int (nI (pl + 1))), (0, .ref r0), (1, .int (nI pl))]) hx hb dX0_readLength_105 hl (by decide) rfl (fun ls hl => ?_)
          refine lv_iload hx hb dX0_readLength_107 (lv_at hl 0 rfl) ?_
          refine cl_Si (As := [.int (nI (row (pl + 1)))]) (rest := []) (wr := [(r0, .inr (0, [.ref r1, .int (nI rs), .ref r2, .ref r3, .ref r4, .ref r5, .int (nI nd), .ref r6, .int (nI lv), .int of])), (r1, .inl (cA, 300, .inl (nA row))), (r2, .inl (cA, 64, .inl (nA tg))), (r3, .inl (cA, 64, .inl (nA st))), (r4, .inl (cA, 64, .inl (nA ln))), (r5, .inl (cA, 64, .inl (pa))), (r6, .inl (cA, 16, .inl (nA ar)))]) ⟨hx, hb, hml, hown, hts⟩ (k_X1_lengthSize l dC dI cA (row (pl + 1)) _ (by omega)) (va_cwS 1 hts gX0_readLength_X1_lengthSize rfl rfl rfl (by decide +kernel) ⟨Nat.le_of_ble_eq_true rfl, Nat.le_of_ble_eq_true rfl⟩) hK hP hD hS hA [] [0, 1, 2, 3, 4, 5, 6] rfl rfl (by decide) (by decide) (by decide) rfl hl.1 rfl (Nat.le_of_ble_eq_true rfl) dX0_readLength_109 ⟨Nat.le_of_ble_eq_true rfl, Nat.le_of_ble_eq_true rfl⟩ (fun r_19 u_19 H locs hw_19 hP hD hS => ?_)
          have hP : va_P (dC, dI) vwCl (wR cA r0 r1 r2 r3 r4 r5 r6 row rs tg st ln pa nd ar lv of) H := hP
          have hD : va_D A (wR cA r0 r1 r2 r3 r4 r5 r6 row rs tg st ln pa nd ar lv of) := hD
          have hw_19 : r_19 = nI (lenSz (row (pl + 1))) := hw_19
          have hw_19 := hw_19.symm
          subst hw_19
          have hz_19 := lenSz_le (row (pl + 1))
          refine lv_iconst (v := nI 1) hx hb dX0_readLength_112 (by decide) ?_
          refine lv_iload hx hb dX0_readLength_113 (lv_at hl 1 rfl) ?_
          refine lv_iadd hx hb dX0_readLength_115 ?_
          refine hl_top (show _ = nI 1 by decide) ?_
          refine hl_icmp_eq (tgt := 127) hx hb dX0_readLength_116 (by decide) (by omega) (by omega) (fun c_20 => ?_) (fun c_20 => absurd (by unfold lenSz; rw [if_pos (by omega)]) c_20)
          refine lv_aload_n hx hb dX0_readLength_127 rfl (lv_at hl 5 rfl) ?_
          refine va_get (D := (dC, dI)) (ci := 0) (v := .ref r3) (C := RX0) (T := TX0) (N := 10) hx hb hts hinX0 hown hK hP 0 rfl rfl 3 (by decide) hf_22 (fun _ h9 => h9) rfl dX0_readLength_128 ?_
          refine lv_aload_n hx hb dX0_readLength_131 rfl (lv_at hl 5 rfl) ?_
          refine va_get (D := (dC, dI)) (ci := 0) (v := .int (nI nd)) (C := RX0) (T := TX0) (N := 10) hx hb hts hinX0 hown hK hP 0 rfl rfl 6 (by decide) hf_31 (fun _ h9 => h9) rfl dX0_readLength_132 ?_
          refine lv_iload_n hx hb dX0_readLength_135 rfl (lv_at hl 4 rfl) ?_
          refine lv_iload hx hb dX0_readLength_136 (lv_at hl 1 rfl) ?_
          refine hl_iadd hx hb dX0_readLength_138 ?_
          refine lv_iconst (v := nI 1) hx hb dX0_readLength_139 (by decide) ?_
          refine hl_iadd hx hb dX0_readLength_140 ?_
          refine hl_iast hx hb hK hP hD hS 3 0 rfl rfl (by omega) (by decide) dX0_readLength_141 (fun H locs hP hD hS => ?_)
          have hP : va_P (dC, dI) vwCl (wR cA r0 r1 r2 r3 r4 r5 r6 row rs tg (va_up st nd (((pl + 1) + 0) + 1)) ln pa nd ar lv of) H := hP
          have hD : va_D A (wR cA r0 r1 r2 r3 r4 r5 r6 row rs tg (va_up st nd (((pl + 1) + 0) + 1)) ln pa nd ar lv of) := hD
          have hB_21 := up_lt hst (k := nd) (x := (((pl + 1) + 0) + 1)) (by omega)
          refine lv_aload_n hx hb dX0_readLength_142 rfl (lv_at hl 5 rfl) ?_
          refine va_get (D := (dC, dI)) (ci := 0) (v := .ref r4) (C := RX0) (T := TX0) (N := 10) hx hb hts hinX0 hown hK hP 0 rfl rfl 4 (by decide) hf_25 (fun _ h9 => h9) rfl dX0_readLength_143 ?_
          refine lv_aload_n hx hb dX0_readLength_146 rfl (lv_at hl 5 rfl) ?_
          refine va_get (D := (dC, dI)) (ci := 0) (v := .int (nI nd)) (C := RX0) (T := TX0) (N := 10) hx hb hts hinX0 hown hK hP 0 rfl rfl 6 (by decide) hf_31 (fun _ h9 => h9) rfl dX0_readLength_147 ?_
          refine lv_iload hx hb dX0_readLength_150 (lv_at hl 0 rfl) ?_
          refine hl_iast hx hb hK hP hD hS 4 0 rfl rfl (by omega) (by decide) dX0_readLength_152 (fun H locs hP hD hS => ?_)
          have hP : va_P (dC, dI) vwCl (wR cA r0 r1 r2 r3 r4 r5 r6 row rs tg (va_up st nd (((pl + 1) + 0) + 1)) (va_up ln nd (row (pl + 1))) pa nd ar lv of) H := hP
          have hD : va_D A (wR cA r0 r1 r2 r3 r4 r5 r6 row rs tg (va_up st nd (((pl + 1) + 0) + 1)) (va_up ln nd (row (pl + 1))) pa nd ar lv of) := hD
          have hB_22 := up_lt hln (k := nd) (x := (row (pl + 1))) (by omega)
          refine lv_iconst (v := nI 0) hx hb dX0_readLength_153 (by decide) ?_
          have hP9 : va_P (dC, dI) vwCl (vX0_readLength cA r0 r1 r2 r3 r4 r5 r6 row rs tg st ln pa nd ar lv of pl (of, va_up st nd (((pl + 1) + 0) + 1), va_up ln nd (row (pl + 1)), (row (pl + 1)), (((pl + 1) + 0) + 1))) _ := hP
          have hD9 : va_D A (vX0_readLength cA r0 r1 r2 r3 r4 r5 r6 row rs tg st ln pa nd ar lv of pl (of, va_up st nd (((pl + 1) + 0) + 1), va_up ln nd (row (pl + 1)), (row (pl + 1)), (((pl + 1) + 0) + 1))) := hD
          have hq9 : pX0_readLength r0 r1 r2 r3 r4 r5 r6 row rs tg st ln pa nd ar lv of pl (nI 0) (of, va_up st nd (((pl + 1) + 0) + 1), va_up ln nd (row (pl + 1)), (row (pl + 1)), (((pl + 1) + 0) + 1)) := Or.inl ⟨by unfold lenS; rw [if_neg (by omega), if_neg (by omega), if_pos (by omega)], rfl, rfl, rfl, rfl⟩
          exact W.iret (v := nI 0) hx hb hr (fun t ht hW => ⟨⟨nI 0, (of, va_up st nd (((pl + 1) + 0) + 1), va_up ln nd (row (pl + 1)), (row (pl + 1)), (((pl + 1) + 0) + 1)), rfl, hq9, by rw [ht]; exact hP9, va_K.moved hW.alike hK, hD9⟩, hS.F ht⟩) hS.2.2 dX0_readLength_154
      · refine lv_aload_n hx hb dX0_readLength_44 rfl (lv_at hl 3 rfl) ?_
        refine lv_bipush (v := (-3)) hx hb dX0_readLength_45 (by decide) ?_
        refine lv_iload_n hx hb dX0_readLength_47 rfl (lv_at hl 2 rfl) ?_
        refine cl_Vi (As := [.int (-3), .int (nI (pl + 1))]) (rest := []) (wr := []) ⟨hx, hb, hml, hown, hts⟩ (k_X0_offend l dC dI cA r0 r1 r2 r3 r4 r5 r6 row rs tg st ln pa nd ar lv of (-3) (nI (pl + 1)) _ ) (cwV 2 hts gX0_readLength_X0_offend rfl rfl rfl (by decide +kernel) ⟨Nat.le_of_ble_eq_true rfl, Nat.le_of_ble_eq_true rfl⟩) hK hP hD hS hA [0, 1, 2, 3, 4, 5, 6] [] rfl rfl (by decide) (by decide) (by decide) (ci := 0) (q0 := 0) rfl rfl rfl rfl hl.1 rfl (Nat.le_of_ble_eq_true rfl) dX0_readLength_48 ⟨Nat.le_of_ble_eq_true rfl, Nat.le_of_ble_eq_true rfl⟩ (fun r_23 u_23 H locs hw_23 hP hD hS => ?_)
        obtain ⟨of2_23, eu_23⟩ : ∃ z, z = u_23 := ⟨_, rfl⟩
        subst eu_23
        have hP : va_P (dC, dI) vwCl (wR cA r0 r1 r2 r3 r4 r5 r6 row rs tg st ln pa nd ar lv of2_23) H := hP
        have hD : va_D A (wR cA r0 r1 r2 r3 r4 r5 r6 row rs tg st ln pa nd ar lv of2_23) := hD
        have hw_23 : r_23 = (-3) ∧ of2_23 = (nI (pl + 1)) := hw_23
        obtain ⟨e0_23, e1_23⟩ := hw_23
        have e0_23 := e0_23.symm
        subst e0_23
        have e1_23 := e1_23.symm
        subst e1_23
        have hP9 : va_P (dC, dI) vwCl (vX0_readLength cA r0 r1 r2 r3 r4 r5 r6 row rs tg st ln pa nd ar lv of pl ((nI (pl + 1)), st, ln, 0, 0)) _ := hP
        have hD9 : va_D A (vX0_readLength cA r0 r1 r2 r3 r4 r5 r6 row rs tg st ln pa nd ar lv of pl ((nI (pl + 1)), st, ln, 0, 0)) := hD
        have hq9 : pX0_readLength r0 r1 r2 r3 r4 r5 r6 row rs tg st ln pa nd ar lv of pl ((-3)) ((nI (pl + 1)), st, ln, 0, 0) := Or.inr ⟨by unfold lenS; rw [if_neg (by omega), if_pos (by omega)], by decide, rfl, rfl⟩
        exact W.iret (v := (-3)) hx hb hr (fun t ht hW => ⟨⟨(-3), ((nI (pl + 1)), st, ln, 0, 0), rfl, hq9, by rw [ht]; exact hP9, va_K.moved hW.alike hK, hD9⟩, hS.F ht⟩) hS.2.2 dX0_readLength_51
  · refine lv_aload_n hx hb dX0_readLength_14 rfl (lv_at hl 2 rfl) ?_
    refine lv_iload_n hx hb dX0_readLength_15 rfl (lv_at hl 3 rfl) ?_
    refine cl_Vi (As := [.int (nI pl)]) (rest := []) (wr := []) ⟨hx, hb, hml, hown, hts⟩ (k_X0_offendByCutLength l dC dI cA r0 r1 r2 r3 r4 r5 r6 row rs tg st ln pa nd ar lv of pl _ (by omega)) (cwV 1 hts gX0_readLength_X0_offendByCutLength rfl rfl rfl (by decide +kernel) ⟨Nat.le_of_ble_eq_true rfl, Nat.le_of_ble_eq_true rfl⟩) hK hP hD hS hA [0, 1, 2, 3, 4, 5, 6] [] rfl rfl (by decide) (by decide) (by decide) (ci := 0) (q0 := 0) rfl rfl rfl rfl hl.1 rfl (Nat.le_of_ble_eq_true rfl) dX0_readLength_16 ⟨Nat.le_of_ble_eq_true rfl, Nat.le_of_ble_eq_true rfl⟩ (fun r_24 u_24 H locs hw_24 hP hD hS => ?_)
    obtain ⟨of2_24, eu_24⟩ : ∃ z, z = u_24 := ⟨_, rfl⟩
    subst eu_24
    have hP : va_P (dC, dI) vwCl (wR cA r0 r1 r2 r3 r4 r5 r6 row rs tg st ln pa nd ar lv of2_24) H := hP
    have hD : va_D A (wR cA r0 r1 r2 r3 r4 r5 r6 row rs tg st ln pa nd ar lv of2_24) := hD
    have hw_24 : (r_24, of2_24) = cutE lv rs pl := hw_24
    have hcut := hw_24
    have hP9 : va_P (dC, dI) vwCl (vX0_readLength cA r0 r1 r2 r3 r4 r5 r6 row rs tg st ln pa nd ar lv of pl (of2_24, st, ln, 0, 0)) _ := hP
    have hD9 : va_D A (vX0_readLength cA r0 r1 r2 r3 r4 r5 r6 row rs tg st ln pa nd ar lv of pl (of2_24, st, ln, 0, 0)) := hD
    have hq9 : pX0_readLength r0 r1 r2 r3 r4 r5 r6 row rs tg st ln pa nd ar lv of pl (r_24) (of2_24, st, ln, 0, 0) := Or.inr ⟨by unfold lenS; rw [if_pos (by omega)]; exact congrArg _ hcut.symm, cutE_ne hcut, rfl, rfl⟩
    exact W.iret (v := r_24) hx hb hr (fun t ht hW => ⟨⟨r_24, (of2_24, st, ln, 0, 0), rfl, hq9, by rw [ht]; exact hP9, va_K.moved hW.alike hK, hD9⟩, hS.F ht⟩) hS.2.2 dX0_readLength_19
abbrev pX0_checkContents (r0 : Nat) (r1 : Nat) (r2 : Nat) (r3 : Nat) (r4 : Nat) (r5 : Nat) (r6 : Nat) (row : Nat → Nat) (rs : Nat) (tg : Nat → Nat) (st : Nat → Nat) (ln : Nat → Nat) (pa : Nat → Int32) (nd : Nat) (ar : Nat → Nat) (lv : Nat) (of : Int32) (pl : Nat) : Int32 → Int32 → Prop := fun (r : Int32) (of2 : Int32) => (conS (tg nd) row (st nd) (ln nd) (limN rs lv ar st ln) pl = none ∧ r = nI 0 ∧ of2 = of) ∨ (conS (tg nd) row (st nd) (ln nd) (limN rs lv ar st ln) pl = some (r, of2) ∧ r ≠ 0)
abbrev vX0_checkContents (cA : ClassId) (r0 : Nat) (r1 : Nat) (r2 : Nat) (r3 : Nat) (r4 : Nat) (r5 : Nat) (r6 : Nat) (row : Nat → Nat) (rs : Nat) (tg : Nat → Nat) (st : Nat → Nat) (ln : Nat → Nat) (pa : Nat → Int32) (nd : Nat) (ar : Nat → Nat) (lv : Nat) (of : Int32) (pl : Nat) : Int32 → va_W := fun (of2 : Int32) => wR cA r0 r1 r2 r3 r4 r5 r6 row rs tg st ln pa nd ar lv of2
abbrev qX0_checkContents (dC : Nat → ClassId) (dI : Nat → Nat → Nat) (cA : ClassId) (A : Nat → Prop) (r0 : Nat) (r1 : Nat) (r2 : Nat) (r3 : Nat) (r4 : Nat) (r5 : Nat) (r6 : Nat) (row : Nat → Nat) (rs : Nat) (tg : Nat → Nat) (st : Nat → Nat) (ln : Nat → Nat) (pa : Nat → Int32) (nd : Nat) (ar : Nat → Nat) (lv : Nat) (of : Int32) (pl : Nat) : Array Value → State → Outcome → State → Prop := va_Qi (pX0_checkContents r0 r1 r2 r3 r4 r5 r6 row rs tg st ln pa nd ar lv of pl) (fun u => cAft dC dI cA A (vX0_checkContents cA r0 r1 r2 r3 r4 r5 r6 row rs tg st ln pa nd ar lv of pl u)) A
set_option maxHeartbeats 4000000 in
set_option maxRecDepth 100000 in
theorem k_X0_checkContents (l : Launch) (dC : Nat → ClassId) (dI : Nat → Nat → Nat) (cA : ClassId) (r0 : Nat) (r1 : Nat) (r2 : Nat) (r3 : Nat) (r4 : Nat) (r5 : Nat) (r6 : Nat) (row : Nat → Nat) (rs : Nat) (tg : Nat → Nat) (st : Nat → Nat) (ln : Nat → Nat) (pa : Nat → Int32) (nd : Nat) (ar : Nat → Nat) (lv : Nat) (of : Int32) (pl : Nat) (sz : Nat) (hrow : ∀ j, row j < 256) (htg : ∀ j, tg j < 256) (hst : ∀ j, st j < 1000) (hln : ∀ j, ln j < 65536) (har : ∀ j, ar j < 64) (hnd : nd < 64) (hlv : lv ≤ 16) (hpl : pl ≤ 300) (hlim : limN rs lv ar st ln ≤ 300) (hsl : st nd ≤ limN rs lv ar st ln) : Met l yX0_checkContents wsX0_checkContents ({ frames := 2, cells := 0, slots := 0, locals := 47 } : Room) (va_Pc [.ref r0, .int (nI pl)] (cPre dC dI cA (wR cA r0 r1 r2 r3 r4 r5 r6 row rs tg st ln pa nd ar lv of) sz)) (qX0_checkContents dC dI cA (va_A (wR cA r0 r1 r2 r3 r4 r5 r6 row rs tg st ln pa nd ar lv of) sz) r0 r1 r2 r3 r4 r5 r6 row rs tg st ln pa nd ar lv of pl) 0 0 (va_A (wR cA r0 r1 r2 r3 r4 r5 r6 row rs tg st ln pa nd ar lv of) sz) := by
  refine Met.ofW (cc := cX0_checkContents) (maxL := 4) (ret := (some .int)) (by decide) rfl ?_
  intro p e s m args below meth c s₁ B hml hv
  obtain ⟨rfl, hsz, hP, hK, hD0⟩ := hv
  have hx := B.exec
  have hb := B.bytes
  have hr := B.returns
  have hts := atoms_spec (ws := wsX0_checkContents) B.pre
  have hown : s.vm.findClass RX0 = some m.cls := findClass_of_methodNamed B.named
  have hlocks := B.notSynchronized
  subst hsz
  have hD := hD0.self (sz := s.heap.size)
  generalize hAe : va_A (wR cA r0 r1 r2 r3 r4 r5 r6 row rs tg st ln pa nd ar lv of) s.heap.size = A at hD ⊢
  have hA : ∀ q : Nat, s.heap.size ≤ q → A q := fun q h => by rw [← hAe]; exact Or.inr h
  have hS : va_S A s.heap s.heap [] := va_S.rf
  have hl := lv_entry ([.ref r0, .int (nI pl)]) (n := 4) (Nat.le_of_ble_eq_true rfl)
  rw [lg_entry_eq]
  generalize (lg_sl ([.ref r0, .int (nI pl)]) ++ List.replicate (4 - (lg_sl ([.ref r0, .int (nI pl)])).length) Slot.unset).toArray = ls at hl ⊢
  have hl : lv_has ls 4 [(0, .ref r0), (1, .int (nI pl))] := hl
  have hinX0 : ∀ w ∈ wsX00, w ∈ wsX0_checkContents := fun _ h => List.mem_cons_of_mem _ (List.mem_append_right _ h)
  have hf_9 := hts (.fieldLink RX0 9 "DerDesk$Reader" "row" "[I") (by decide +kernel)
  have hf_19 := hts (.fieldLink RX0 19 "DerDesk$Reader" "tags" "[I") (by decide +kernel)
  have hf_22 := hts (.fieldLink RX0 22 "DerDesk$Reader" "starts" "[I") (by decide +kernel)
  have hf_25 := hts (.fieldLink RX0 25 "DerDesk$Reader" "lengths" "[I") (by decide +kernel)
  have hf_31 := hts (.fieldLink RX0 31 "DerDesk$Reader" "nodes" "I") (by decide +kernel)
  have hP : va_P (dC, dI) vwCl (wR cA r0 r1 r2 r3 r4 r5 r6 row rs tg st ln pa nd ar lv of) s.heap := hP
  refine lv_aload_n hx hb dX0_checkContents_0 rfl (lv_at hl 0 rfl) ?_
  refine va_get (D := (dC, dI)) (ci := 0) (v := .ref r3) (C := RX0) (T := TX0) (N := 10) hx hb hts hinX0 hown hK hP 0 rfl rfl 3 (by decide) hf_22 (fun _ h9 => h9) rfl dX0_checkContents_1 ?_
  refine lv_aload_n hx hb dX0_checkContents_4 rfl (lv_at hl 0 rfl) ?_
  refine va_get (D := (dC, dI)) (ci := 0) (v := .int (nI nd)) (C := RX0) (T := TX0) (N := 10) hx hb hts hinX0 hown hK hP 0 rfl rfl 6 (by decide) hf_31 (fun _ h9 => h9) rfl dX0_checkContents_5 ?_
  refine hl_iald hx hb hK hP 3 0 rfl rfl (by omega) (by decide) dX0_checkContents_8 ?_
  have hv_1 := hst nd
  refine lv_istore_n (lv' := [(2, .int (nI (st nd))), (0, .ref r0), (1, .int (nI pl))]) hx hb dX0_checkContents_9 rfl hl (by decide) rfl (fun ls hl => ?_)
  refine lv_aload_n hx hb dX0_checkContents_10 rfl (lv_at hl 1 rfl) ?_
  refine va_get (D := (dC, dI)) (ci := 0) (v := .ref r4) (C := RX0) (T := TX0) (N := 10) hx hb hts hinX0 hown hK hP 0 rfl rfl 4 (by decide) hf_25 (fun _ h9 => h9) rfl dX0_checkContents_11 ?_
  refine lv_aload_n hx hb dX0_checkContents_14 rfl (lv_at hl 1 rfl) ?_
  refine va_get (D := (dC, dI)) (ci := 0) (v := .int (nI nd)) (C := RX0) (T := TX0) (N := 10) hx hb hts hinX0 hown hK hP 0 rfl rfl 6 (by decide) hf_31 (fun _ h9 => h9) rfl dX0_checkContents_15 ?_
  refine hl_iald hx hb hK hP 4 0 rfl rfl (by omega) (by decide) dX0_checkContents_18 ?_
  have hv_2 := hln nd
  refine lv_istore_n (lv' := [(3, .int (nI (ln nd))), (2, .int (nI (st nd))), (0, .ref r0), (1, .int (nI pl))]) hx hb dX0_checkContents_19 rfl hl (by decide) rfl (fun ls hl => ?_)
  refine lv_iload_n hx hb dX0_checkContents_20 rfl (lv_at hl 0 rfl) ?_
  refine lv_aload_n hx hb dX0_checkContents_21 rfl (lv_at hl 2 rfl) ?_
  refine cl_Vi (As := []) (rest := [.int (nI (ln nd))]) (wr := []) ⟨hx, hb, hml, hown, hts⟩ (k_X0_limitHere l dC dI cA r0 r1 r2 r3 r4 r5 r6 row rs tg st ln pa nd ar lv of _ (by omega) (fun j _ => har j)) (cwV 0 hts gX0_checkContents_X0_limitHere rfl rfl rfl (by decide +kernel) ⟨Nat.le_of_ble_eq_true rfl, Nat.le_of_ble_eq_true rfl⟩) hK hP hD hS hA [0, 1, 2, 3, 4, 5, 6] [] rfl rfl (by decide) (by decide) (by decide) (ci := 0) (q0 := 0) rfl rfl rfl rfl hl.1 rfl (Nat.le_of_ble_eq_true rfl) dX0_checkContents_22 ⟨Nat.le_of_ble_eq_true rfl, Nat.le_of_ble_eq_true rfl⟩ (fun r_3 u_3 H locs hw_3 hP hD hS => ?_)
  have hP : va_P (dC, dI) vwCl (wR cA r0 r1 r2 r3 r4 r5 r6 row rs tg st ln pa nd ar lv of) H := hP
  have hD : va_D A (wR cA r0 r1 r2 r3 r4 r5 r6 row rs tg st ln pa nd ar lv of) := hD
  have hw_3 : r_3 = nI (limN rs lv ar st ln) := hw_3
  have hw_3 := hw_3.symm
  subst hw_3
  refine lv_iload_n hx hb dX0_checkContents_25 rfl (lv_at hl 1 rfl) ?_
  refine hl_isub hx hb (by omega) dX0_checkContents_26 ?_
  refine hl_icmp_le (tgt := 38) hx hb dX0_checkContents_27 (by decide) (by omega) (by omega) (fun c_4 => ?_) (fun c_4 => ?_)
  · refine lv_aload_n hx hb dX0_checkContents_38 rfl (lv_at hl 2 rfl) ?_
    refine va_get (D := (dC, dI)) (ci := 0) (v := .ref r2) (C := RX0) (T := TX0) (N := 10) hx hb hts hinX0 hown hK hP 0 rfl rfl 2 (by decide) hf_19 (fun _ h9 => h9) rfl dX0_checkContents_39 ?_
    refine lv_aload_n hx hb dX0_checkContents_42 rfl (lv_at hl 2 rfl) ?_
    refine va_get (D := (dC, dI)) (ci := 0) (v := .int (nI nd)) (C := RX0) (T := TX0) (N := 10) hx hb hts hinX0 hown hK hP 0 rfl rfl 6 (by decide) hf_31 (fun _ h9 => h9) rfl dX0_checkContents_43 ?_
    refine hl_iald hx hb hK hP 2 0 rfl rfl (by omega) (by decide) dX0_checkContents_46 ?_
    have hv_5 := htg nd
    refine lv_aload_n hx hb dX0_checkContents_47 rfl (lv_at hl 2 rfl) ?_
    refine va_get (D := (dC, dI)) (ci := 0) (v := .ref r1) (C := RX0) (T := TX0) (N := 10) hx hb hts hinX0 hown hK hP 0 rfl rfl 0 (by decide) hf_9 (fun _ h9 => h9) rfl dX0_checkContents_48 ?_
    refine lv_iload_n hx hb dX0_checkContents_51 rfl (lv_at hl 1 rfl) ?_
    refine lv_iload_n hx hb dX0_checkContents_52 rfl (lv_at hl 0 rfl) ?_
    refine cl_Si (As := [.int (nI (tg nd)), .ref r1, .int (nI (st nd)), .int (nI (ln nd))]) (rest := []) (wr := [(r0, .inr (0, [.ref r1, .int (nI rs), .ref r2, .ref r3, .ref r4, .ref r5, .int (nI nd), .ref r6, .int (nI lv), .int of])), (r2, .inl (cA, 64, .inl (nA tg))), (r3, .inl (cA, 64, .inl (nA st))), (r4, .inl (cA, 64, .inl (nA ln))), (r5, .inl (cA, 64, .inl (pa))), (r6, .inl (cA, 16, .inl (nA ar)))]) ⟨hx, hb, hml, hown, hts⟩ (k_X1_hold l dC dI cA r1 row (tg nd) (st nd) (ln nd) _ (by omega) hrow (by omega)) (va_cwS 4 hts gX0_checkContents_X1_hold rfl rfl rfl (by decide +kernel) ⟨Nat.le_of_ble_eq_true rfl, Nat.le_of_ble_eq_true rfl⟩) hK hP hD hS hA [1] [0, 2, 3, 4, 5, 6] rfl rfl (by decide) (by decide) (by decide) rfl hl.1 rfl (Nat.le_of_ble_eq_true rfl) dX0_checkContents_53 ⟨Nat.le_of_ble_eq_true rfl, Nat.le_of_ble_eq_true rfl⟩ (fun r_6 u_6 H locs hw_6 hP hD hS => ?_)
    have hP : va_P (dC, dI) vwCl (wR cA r0 r1 r2 r3 r4 r5 r6 row rs tg st ln pa nd ar lv of) H := hP.sub [0, 6, 1, 2, 3, 4, 5] rfl
    have hD : va_D A (wR cA r0 r1 r2 r3 r4 r5 r6 row rs tg st ln pa nd ar lv of) := hD.sub [0, 6, 1, 2, 3, 4, 5] (by decide) rfl
    have hw_6 : r_6 = if okC (tg nd) row (st nd) (ln nd) = true then 1 else 0 := hw_6
    have hw_6 := hw_6.symm
    subst hw_6
    refine hl_ifb_eq (tgt := 63) hx hb dX0_checkContents_56 (by decide) (fun c_7 => ?_) (fun c_7 => ?_)
    · refine lv_aload_n hx hb dX0_checkContents_63 rfl (lv_at hl 2 rfl) ?_
      refine lv_bipush (v := (-5)) hx hb dX0_checkContents_64 (by decide) ?_
      refine lv_iload_n hx hb dX0_checkContents_66 rfl (lv_at hl 3 rfl) ?_
      refine cl_Vi (As := [.int (-5), .int (nI pl)]) (rest := []) (wr := []) ⟨hx, hb, hml, hown, hts⟩ (k_X0_offend l dC dI cA r0 r1 r2 r3 r4 r5 r6 row rs tg st ln pa nd ar lv of (-5) (nI pl) _ ) (cwV 2 hts gX0_checkContents_X0_offend rfl rfl rfl (by decide +kernel) ⟨Nat.le_of_ble_eq_true rfl, Nat.le_of_ble_eq_true rfl⟩) hK hP hD hS hA [0, 1, 2, 3, 4, 5, 6] [] rfl rfl (by decide) (by decide) (by decide) (ci := 0) (q0 := 0) rfl rfl rfl rfl hl.1 rfl (Nat.le_of_ble_eq_true rfl) dX0_checkContents_67 ⟨Nat.le_of_ble_eq_true rfl, Nat.le_of_ble_eq_true rfl⟩ (fun r_8 u_8 H locs hw_8 hP hD hS => ?_)
      obtain ⟨of2_8, eu_8⟩ : ∃ z, z = u_8 := ⟨_, rfl⟩
      subst eu_8
      have hP : va_P (dC, dI) vwCl (wR cA r0 r1 r2 r3 r4 r5 r6 row rs tg st ln pa nd ar lv of2_8) H := hP
      have hD : va_D A (wR cA r0 r1 r2 r3 r4 r5 r6 row rs tg st ln pa nd ar lv of2_8) := hD
      have hw_8 : r_8 = (-5) ∧ of2_8 = (nI pl) := hw_8
      obtain ⟨e0_8, e1_8⟩ := hw_8
      have e0_8 := e0_8.symm
      subst e0_8
      have e1_8 := e1_8.symm
      subst e1_8
      have hP9 : va_P (dC, dI) vwCl (vX0_checkContents cA r0 r1 r2 r3 r4 r5 r6 row rs tg st ln pa nd ar lv of pl (nI pl)) _ := hP
      have hD9 : va_D A (vX0_checkContents cA r0 r1 r2 r3 r4 r5 r6 row rs tg st ln pa nd ar lv of pl (nI pl)) := hD
      have hq9 : pX0_checkContents r0 r1 r2 r3 r4 r5 r6 row rs tg st ln pa nd ar lv of pl ((-5)) (nI pl) := Or.inr ⟨by unfold conS; rw [if_neg (by omega), if_pos (by assumption)], by decide⟩
      exact W.iret (v := (-5)) hx hb hr (fun t ht hW => ⟨⟨(-5), (nI pl), rfl, hq9, by rw [ht]; exact hP9, va_K.moved hW.alike hK, hD9⟩, hS.F ht⟩) hS.2.2 dX0_checkContents_70
    · refine lv_iconst (v := nI 0) hx hb dX0_checkContents_59 (by decide) ?_
      refine lv_goto (tgt := 70) hx hb dX0_checkContents_60 (by decide) ?_
      have hP9 : va_P (dC, dI) vwCl (vX0_checkContents cA r0 r1 r2 r3 r4 r5 r6 row rs tg st ln pa nd ar lv of pl of) _ := hP
      have hD9 : va_D A (vX0_checkContents cA r0 r1 r2 r3 r4 r5 r6 row rs tg st ln pa nd ar lv of pl of) := hD
      have hq9 : pX0_checkContents r0 r1 r2 r3 r4 r5 r6 row rs tg st ln pa nd ar lv of pl (nI 0) of := Or.inl ⟨by unfold conS; rw [if_neg (by omega), if_neg (fun h => h (by assumption))], rfl, rfl⟩
      exact W.iret (v := nI 0) hx hb hr (fun t ht hW => ⟨⟨nI 0, of, rfl, hq9, by rw [ht]; exact hP9, va_K.moved hW.alike hK, hD9⟩, hS.F ht⟩) hS.2.2 dX0_checkContents_70
  · refine lv_aload_n hx hb dX0_checkContents_30 rfl (lv_at hl 2 rfl) ?_
    refine lv_bipush (v := (-4)) hx hb dX0_checkContents_31 (by decide) ?_
    refine lv_iload_n hx hb dX0_checkContents_33 rfl (lv_at hl 3 rfl) ?_
    refine cl_Vi (As := [.int (-4), .int (nI pl)]) (rest := []) (wr := []) ⟨hx, hb, hml, hown, hts⟩ (k_X0_offend l dC dI cA r0 r1 r2 r3 r4 r5 r6 row rs tg st ln pa nd ar lv of (-4) (nI pl) _ ) (cwV 2 hts gX0_checkContents_X0_offend rfl rfl rfl (by decide +kernel) ⟨Nat.le_of_ble_eq_true rfl, Nat.le_of_ble_eq_true rfl⟩) hK hP hD hS hA [0, 1, 2, 3, 4, 5, 6] [] rfl rfl (by decide) (by decide) (by decide) (ci := 0) (q0 := 0) rfl rfl rfl rfl hl.1 rfl (Nat.le_of_ble_eq_true rfl) dX0_checkContents_34 ⟨Nat.le_of_ble_eq_true rfl, Nat.le_of_ble_eq_true rfl⟩ (fun r_9 u_9 H locs hw_9 hP hD hS => ?_)
    obtain ⟨of2_9, eu_9⟩ : ∃ z, z = u_9 := ⟨_, rfl⟩
    subst eu_9
    have hP : va_P (dC, dI) vwCl (wR cA r0 r1 r2 r3 r4 r5 r6 row rs tg st ln pa nd ar lv of2_9) H := hP
    have hD : va_D A (wR cA r0 r1 r2 r3 r4 r5 r6 row rs tg st ln pa nd ar lv of2_9) := hD
    have hw_9 : r_9 = (-4) ∧ of2_9 = (nI pl) := hw_9
    obtain ⟨e0_9, e1_9⟩ := hw_9
    have e0_9 := e0_9.symm
    subst e0_9
    have e1_9 := e1_9.symm
    subst e1_9
    have hP9 : va_P (dC, dI) vwCl (vX0_checkContents cA r0 r1 r2 r3 r4 r5 r6 row rs tg st ln pa nd ar lv of pl (nI pl)) _ := hP
    have hD9 : va_D A (vX0_checkContents cA r0 r1 r2 r3 r4 r5 r6 row rs tg st ln pa nd ar lv of pl (nI pl)) := hD
    have hq9 : pX0_checkContents r0 r1 r2 r3 r4 r5 r6 row rs tg st ln pa nd ar lv of pl ((-4)) (nI pl) := Or.inr ⟨by unfold conS; rw [if_pos (by omega)], by decide⟩
    exact W.iret (v := (-4)) hx hb hr (fun t ht hW => ⟨⟨(-4), (nI pl), rfl, hq9, by rw [ht]; exact hP9, va_K.moved hW.alike hK, hD9⟩, hS.F ht⟩) hS.2.2 dX0_checkContents_37
