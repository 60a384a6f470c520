abbrev pX0_readValues (r0 : Nat) (r1 : Nat) (r2 : Nat) (r3 : Nat) (r4 : Nat) (r5 : Nat) (r6 : Nat) (row : Nat → Nat) (rs : Nat) (tg : Nat → Nat) (st : Nat → Nat) (ln : Nat → Nat) (pa : Nat → Int32) (ar : Nat → Nat) (of : Int32) : Int32 → Int32 × Nat × Nat × (Nat → Nat) × (Nat → Nat) × (Nat → Nat) × (Nat → Nat) × (Nat → Int32) × Nat → Prop := fun (r : Int32) (u : Int32 × Nat × Nat × (Nat → Nat) × (Nat → Nat) × (Nat → Nat) × (Nat → Nat) × (Nat → Int32) × Nat) => match u with | (of2, nd2, lv2, tg2, st2, ln2, ar2, pa2, pl2) => ((runS row rs 65 (0, 0, 0, tg, st, ln, ar, pa) = .inr (pl2, nd2, lv2, tg2, st2, ln2, ar2, pa2) ∧ r = nI 0 ∧ of2 = of ∧ PInv rs pl2 nd2 lv2 tg2 st2 ln2 ar2 ∧ 0 < nd2) ∨ (runS row rs 65 (0, 0, 0, tg, st, ln, ar, pa) = .inl (r, of2) ∧ r ≠ 0)) ∧ (∀ j, tg2 j < 256) ∧ (∀ j, st2 j < 1000) ∧ (∀ j, ln2 j < 65536) ∧ (∀ j, ar2 j < 64) ∧ nd2 ≤ 64 ∧ lv2 ≤ 16
abbrev vX0_readValues (cA : ClassId) (r0 : Nat) (r1 : Nat) (r2 : Nat) (r3 : Nat) (r4 : Nat) (r5 : Nat) (r6 : Nat) (row : Nat → Nat) (rs : Nat) (tg : Nat → Nat) (st : Nat → Nat) (ln : Nat → Nat) (pa : Nat → Int32) (ar : Nat → Nat) (of : Int32) : Int32 × Nat × Nat × (Nat → Nat) × (Nat → Nat) × (Nat → Nat) × (Nat → Nat) × (Nat → Int32) × Nat → va_W := fun (u : Int32 × Nat × Nat × (Nat → Nat) × (Nat → Nat) × (Nat → Nat) × (Nat → Nat) × (Nat → Int32) × Nat) => match u with | (of2, nd2, lv2, tg2, st2, ln2, ar2, pa2, pl2) => wR cA r0 r1 r2 r3 r4 r5 r6 row rs tg2 st2 ln2 pa2 nd2 ar2 lv2 of2
abbrev qX0_readValues (dC : Nat → ClassId) (dI : Nat → Nat → Nat) (cA : ClassId) (A : Nat → Prop) (r0 : Nat) (r1 : Nat) (r2 : Nat) (r3 : Nat) (r4 : Nat) (r5 : Nat) (r6 : Nat) (row : Nat → Nat) (rs : Nat) (tg : Nat → Nat) (st : Nat → Nat) (ln : Nat → Nat) (pa : Nat → Int32) (ar : Nat → Nat) (of : Int32) : Array Value → State → Outcome → State → Prop := va_Qi (pX0_readValues r0 r1 r2 r3 r4 r5 r6 row rs tg st ln pa ar of) (fun u => cAft dC dI cA A (vX0_readValues cA r0 r1 r2 r3 r4 r5 r6 row rs tg st ln pa ar of u)) A
set_option maxHeartbeats 4000000 in
set_option maxRecDepth 100000 in
theorem k_X0_readValues (l : Launch) (dC : Nat → ClassId) (dI : Nat → Nat → Nat) (cA : ClassId) (r0 : Nat) (r1 : Nat) (r2 : Nat) (r3 : Nat) (r4 : Nat) (r5 : Nat) (r6 : Nat) (row : Nat → Nat) (rs : Nat) (tg : Nat → Nat) (st : Nat → Nat) (ln : Nat → Nat) (pa : Nat → Int32) (ar : Nat → Nat) (of : Int32) (sz : Nat) (hrow : ∀ j, row j < 256) (htg : ∀ j, tg j < 256) (hst : ∀ j, st j < 1000) (hln : ∀ j, ln j < 65536) (har : ∀ j, ar j < 64) (hrs : rs ≤ 300) : Met l yX0_readValues wsX0_readValues ({ frames := 4, cells := 0, slots := 0, locals := 92 } : Room) (va_Pc [.ref r0] (cPre dC dI cA (wR cA r0 r1 r2 r3 r4 r5 r6 row rs tg st ln pa 0 ar 0 of) sz)) (qX0_readValues dC dI cA (va_A (wR cA r0 r1 r2 r3 r4 r5 r6 row rs tg st ln pa 0 ar 0 of) sz) r0 r1 r2 r3 r4 r5 r6 row rs tg st ln pa ar of) 0 0 (va_A (wR cA r0 r1 r2 r3 r4 r5 r6 row rs tg st ln pa 0 ar 0 of) sz) := by
  refine Met.ofW (cc := cX0_readValues) (maxL := 4) (ret := (some .int)) (by decide) rfl ?_
  intro p e s m args below meth c s₁ B hml hv
  obtain ⟨rfl, hsz, hP, hK, hD0⟩ := hv
  have hx := B.exec
  have hb := B.bytes
  have hr := B.returns
  have hts := atoms_spec (ws := wsX0_readValues) B.pre
  have hown : s.vm.findClass RX0 = some m.cls := findClass_of_methodNamed B.named
  have hlocks := B.notSynchronized
  subst hsz
  have hD := hD0.self (sz := s.heap.size)
  generalize hAe : va_A (wR cA r0 r1 r2 r3 r4 r5 r6 row rs tg st ln pa 0 ar 0 of) s.heap.size = A at hD ⊢
  have hA : ∀ q : Nat, s.heap.size ≤ q → A q := fun q h => by rw [← hAe]; exact Or.inr h
  have hS : va_S A s.heap s.heap [] := va_S.rf
  have hl := lv_entry ([.ref r0]) (n := 4) (Nat.le_of_ble_eq_true rfl)
  rw [lg_entry_eq]
  generalize (lg_sl ([.ref r0]) ++ List.replicate (4 - (lg_sl ([.ref r0])).length) Slot.unset).toArray = ls at hl ⊢
  have hl : lv_has ls 4 [(0, .ref r0)] := hl
  have hinX0 : ∀ w ∈ wsX00, w ∈ wsX0_readValues := fun _ h => List.mem_cons_of_mem _ (List.mem_append_right _ h)
  have hf_15 := hts (.fieldLink RX0 15 "DerDesk$Reader" "rowSize" "I") (by decide +kernel)
  have hf_31 := hts (.fieldLink RX0 31 "DerDesk$Reader" "nodes" "I") (by decide +kernel)
  have hf_37 := hts (.fieldLink RX0 37 "DerDesk$Reader" "level" "I") (by decide +kernel)
  have hP : va_P (dC, dI) vwCl (wR cA r0 r1 r2 r3 r4 r5 r6 row rs tg st ln pa 0 ar 0 of) s.heap := hP
  refine lv_iconst (v := nI 0) hx hb dX0_readValues_0 (by decide) ?_
  refine lv_istore_n (lv' := [(1, .int (nI 0)), (0, .ref r0)]) hx hb dX0_readValues_1 rfl hl (by decide) rfl (fun ls hl => ?_)
  refine lv_iconst (v := nI 0) hx hb dX0_readValues_2 (by decide) ?_
  refine lv_istore_n (lv' := [(2, .int (nI 0)), (1, .int (nI 0)), (0, .ref r0)]) hx hb dX0_readValues_3 rfl hl (by decide) rfl (fun ls hl => ?_)
  have lp_4 : ∀ (nf : Nat) (pl1 : Nat) (v1 : Nat) (nd1 : Nat) (lv1 : Nat) (tg1 : Nat → Nat) (st1 : Nat → Nat) (ln1 : Nat → Nat) (ar1 : Nat → Nat) (pa1 : Nat → Int32), 65 - v1 < nf → (PInv rs pl1 nd1 lv1 tg1 st1 ln1 ar1) → (v1 = nd1) → (runS row rs (65 - nd1) (pl1, nd1, lv1, tg1, st1, ln1, ar1, pa1) = runS row rs 65 (0, 0, 0, tg, st, ln, ar, pa)) → ∀ (H : Heap) (locs : List Loc) (ls : Array Slot), va_P (dC, dI) vwCl (wR cA r0 r1 r2 r3 r4 r5 r6 row rs tg1 st1 ln1 pa1 nd1 ar1 lv1 of) H → va_D A (wR cA r0 r1 r2 r3 r4 r5 r6 row rs tg1 st1 ln1 pa1 nd1 ar1 lv1 of) → va_S A s.heap H locs → lv_has ls 4 [(2, .int (nI v1)), (1, .int (nI pl1)), (0, .ref r0)] → W p l e (headSpec wsX0_readValues ({ frames := 4, cells := 0, slots := 0, locals := 92 } : Room)).room s m ([.ref r0] : List Value).toArray below meth c H locs 0 0 (MQ below (qX0_readValues dC dI cA A r0 r1 r2 r3 r4 r5 r6 row rs tg st ln pa ar of) ([.ref r0] : List Value).toArray s 0 0 A) (F0 m 4 ls []) := by
    intro nf
    induction nf with
    | zero =>
      intro pl1 v1 nd1 lv1 tg1 st1 ln1 ar1 pa1 hm
      exact absurd hm (Nat.not_lt_zero _)
    | succ nf ih_4 =>
      intro pl1 v1 nd1 lv1 tg1 st1 ln1 ar1 pa1 hm hI hv hrun H locs ls hP hD hS hl
      obtain ⟨i1, i2, i3, i4, i5, i6, i7, i8, i9, i10, i11⟩ := id hI
      have hlim := hI.lim
      refine lv_iload_n hx hb dX0_readValues_4 rfl (lv_at hl 0 rfl) ?_
      refine lv_bipush (v := nI 64) hx hb dX0_readValues_5 (by decide) ?_
      refine hl_icmp_gt (tgt := 71) hx hb dX0_readValues_7 (by decide) (by omega) (by omega) (fun c_2 => absurd c_2 (by omega)) (fun c_2 => ?_)
      refine lv_aload_n hx hb dX0_readValues_10 rfl (lv_at hl 2 rfl) ?_
      refine lv_iload_n hx hb dX0_readValues_11 rfl (lv_at hl 1 rfl) ?_
      refine cl_Vi (As := [.int (nI pl1)]) (rest := []) (wr := []) ⟨hx, hb, hml, hown, hts⟩ (k_X0_readValue l dC dI cA r0 r1 r2 r3 r4 r5 r6 row rs tg1 st1 ln1 pa1 nd1 ar1 lv1 of pl1 _ hrow i4 i5 i6 i7 (by omega) (by omega) (by omega) (by omega) (by omega) i8) (cwV 1 hts gX0_readValues_X0_readValue rfl rfl rfl (by decide +kernel) ⟨Nat.le_of_ble_eq_true rfl, Nat.le_of_ble_eq_true rfl⟩) hK hP hD hS hA [0, 1, 2, 3, 4, 5, 6] [] rfl rfl (by decide) (by decide) (by decide) (ci := 0) (q0 := 0) rfl rfl rfl rfl hl.1 rfl (Nat.le_of_ble_eq_true rfl) dX0_readValues_12 ⟨Nat.le_of_ble_eq_true rfl, Nat.le_of_ble_eq_true rfl⟩ (fun r_3 u_3 H locs hw_3 hP hD hS => ?_)
      obtain ⟨of2_3, nd2_3, tg2_3, st2_3, ln2_3, pa2_3, xn_3, xa_3⟩ := u_3
      have hP : va_P (dC, dI) vwCl (wR cA r0 r1 r2 r3 r4 r5 r6 row rs tg2_3 st2_3 ln2_3 pa2_3 nd2_3 ar1 lv1 of2_3) H := hP
      have hD : va_D A (wR cA r0 r1 r2 r3 r4 r5 r6 row rs tg2_3 st2_3 ln2_3 pa2_3 nd2_3 ar1 lv1 of2_3) := hD
      have hw_3 : ((valS row rs nd1 lv1 ar1 st1 ln1 pl1 = .inr (xn_3, xa_3) ∧ r_3 = nI 0 ∧ of2_3 = of ∧ nd2_3 = nd1 + 1 ∧ tg2_3 = va_up tg1 nd1 (row pl1) ∧ st2_3 = va_up st1 nd1 xa_3 ∧ ln2_3 = va_up ln1 nd1 xn_3 ∧ pa2_3 = upd pa1 nd1 (parI lv1 ar1)) ∨ (valS row rs nd1 lv1 ar1 st1 ln1 pl1 = .inl (r_3, of2_3) ∧ r_3 ≠ 0 ∧ nd2_3 = nd1)) ∧ (∀ j, tg2_3 j < 256) ∧ (∀ j, st2_3 j < 1000) ∧ (∀ j, ln2_3 j < 65536) := hw_3
      obtain ⟨hw_3, hb1, hb2, hb3⟩ := hw_3
      rcases hw_3 with ⟨hval_3, e1_3, e2_3, e3_3, e4_3, e5_3, e6_3, e7_3⟩ | ⟨hval_3, hne_3, e2_3⟩
      · have e1_3 := e1_3.symm
        subst e1_3
        have e2_3 := e2_3.symm
        subst e2_3
        have e3_3 := e3_3.symm
        subst e3_3
        have e4_3 := e4_3.symm
        subst e4_3
        have e5_3 := e5_3.symm
        subst e5_3
        have e6_3 := e6_3.symm
        subst e6_3
        have e7_3 := e7_3.symm
        subst e7_3
        have hval := hval_3
        obtain ⟨w1, w2, w3, w4, w5, w6, w7, w8⟩ := valS_ok hrow hval
        dsimp only at w5 w6 w7
        have hnx := PInv.next hrow hrs hI hval
        refine lv_istore_n (lv' := [(3, .int (nI 0)), (2, .int (nI v1)), (1, .int (nI pl1)), (0, .ref r0)]) hx hb dX0_readValues_15 rfl hl (by decide) rfl (fun ls hl => ?_)
        refine lv_iload_n hx hb dX0_readValues_16 rfl (lv_at hl 0 rfl) ?_
        refine hl_if_eq (tgt := 22) hx hb dX0_readValues_17 (by decide) (by omega) (fun c_4 => ?_) (fun c_4 => absurd c_4 (by decide))
        refine lv_aload_n hx hb dX0_readValues_22 rfl (lv_at hl 3 rfl) ?_
        refine lv_aload_n hx hb dX0_readValues_23 rfl (lv_at hl 3 rfl) ?_
        refine va_get (D := (dC, dI)) (ci := 0) (v := .int (nI (nd1 + 1))) (C := RX0) (T := TX0) (N := 10) hx hb hts hinX0 hown hK hP 0 rfl rfl 6 (by decide) hf_31 (fun _ h9 => h9) rfl dX0_readValues_24 ?_
        refine lv_iconst (v := nI 1) hx hb dX0_readValues_27 (by decide) ?_
        refine hl_isub hx hb (by omega) dX0_readValues_28 ?_
        refine hl_top (show nI (nd1 + 1 - 1) = nI nd1 from rfl) ?_
        refine cl_Vi (As := [.int (nI nd1)]) (rest := []) (wr := []) ⟨hx, hb, hml, hown, hts⟩ (k_X0_goOnFrom l dC dI cA r0 r1 r2 r3 r4 r5 r6 row rs (va_up tg1 nd1 (row pl1)) (va_up st1 nd1 xa_3) (va_up ln1 nd1 xn_3) (upd pa1 nd1 (parI lv1 ar1)) (nd1 + 1) ar1 lv1 of nd1 _ hb1 hb2 (by omega) (by omega)) (cwV 1 hts gX0_readValues_X0_goOnFrom rfl rfl rfl (by decide +kernel) ⟨Nat.le_of_ble_eq_true rfl, Nat.le_of_ble_eq_true rfl⟩) hK hP hD hS hA [0, 1, 2, 3, 4, 5, 6] [] rfl rfl (by decide) (by decide) (by decide) (ci := 0) (q0 := 0) rfl rfl rfl rfl hl.1 rfl (Nat.le_of_ble_eq_true rfl) dX0_readValues_29 ⟨Nat.le_of_ble_eq_true rfl, Nat.le_of_ble_eq_true rfl⟩ (fun r_5 u_5 H locs hw_5 hP hD hS => ?_)
        obtain ⟨ar2_5, lv2_5⟩ := u_5
        have hP : va_P (dC, dI) vwCl (wR cA r0 r1 r2 r3 r4 r5 r6 row rs (va_up tg1 nd1 (row pl1)) (va_up st1 nd1 xa_3) (va_up ln1 nd1 xn_3) (upd pa1 nd1 (parI lv1 ar1)) (nd1 + 1) ar2_5 lv2_5 of) H := hP
        have hD : va_D A (wR cA r0 r1 r2 r3 r4 r5 r6 row rs (va_up tg1 nd1 (row pl1)) (va_up st1 nd1 xa_3) (va_up ln1 nd1 xn_3) (upd pa1 nd1 (parI lv1 ar1)) (nd1 + 1) ar2_5 lv2_5 of) := hD
        have hw_5 : ((va_up tg1 nd1 (row pl1)) nd1 = 48 ∧ r_5 = nI ((va_up st1 nd1 xa_3) nd1) ∧ ar2_5 = va_up ar1 lv1 nd1 ∧ lv2_5 = lv1 + 1) ∨ (¬ (va_up tg1 nd1 (row pl1)) nd1 = 48 ∧ r_5 = nI ((va_up st1 nd1 xa_3) nd1 + (va_up ln1 nd1 xn_3) nd1) ∧ ar2_5 = ar1 ∧ lv2_5 = lv1) := hw_5
        simp only [up_eq] at hw_5
        rcases hw_5 with ⟨hsq_5, e1_5, e2_5, e3_5⟩ | ⟨hsq_5, e1_5, e2_5, e3_5⟩
        · have e1_5 := e1_5.symm
          subst e1_5
          have e2_5 := e2_5.symm
          subst e2_5
          have e3_5 := e3_5.symm
          subst e3_5
          have hAp : nxA row pl1 nd1 lv1 ar1 = va_up ar1 lv1 nd1 := if_pos hsq_5
          have hLp : nxL row pl1 lv1 = lv1 + 1 := if_pos hsq_5
          have hPp : nxP row pl1 (xn_3, xa_3) = xa_3 := if_pos hsq_5
          have hb4 : ∀ j, (va_up ar1 lv1 nd1 : Nat → Nat) j < 64 := up_lt i7 (by omega)
          refine lv_istore_n (lv' := [(1, .int (nI xa_3)), (3, .int (nI 0)), (2, .int (nI v1)), (0, .ref r0)]) hx hb dX0_readValues_32 rfl hl (by decide) rfl (fun ls hl => ?_)
          refine lv_aload_n hx hb dX0_readValues_33 rfl (lv_at hl 3 rfl) ?_
          refine lv_iload_n hx hb dX0_readValues_34 rfl (lv_at hl 0 rfl) ?_
          refine cl_Vv (As := [.int (nI xa_3)]) (rest := []) (wr := []) ⟨hx, hb, hml, hown, hts⟩ (k_X0_leaveSequencesThatEndAt l dC dI cA r0 r1 r2 r3 r4 r5 r6 row rs (va_up tg1 nd1 (row pl1)) (va_up st1 nd1 xa_3) (va_up ln1 nd1 xn_3) (upd pa1 nd1 (parI lv1 ar1)) (nd1 + 1) (va_up ar1 lv1 nd1) (lv1 + 1) of xa_3 _ hb2 hb3 hb4 (by omega) (by omega)) (cwV 1 hts gX0_readValues_X0_leaveSequencesThatEndAt rfl rfl rfl (by decide +kernel) ⟨Nat.le_of_ble_eq_true rfl, Nat.le_of_ble_eq_true rfl⟩) hK hP hD hS hA [0, 1, 2, 3, 4, 5, 6] [] rfl rfl (by decide) (by decide) (by decide) (ci := 0) (q0 := 0) rfl rfl rfl rfl hl.1 rfl (Nat.le_of_ble_eq_true rfl) dX0_readValues_35 ⟨Nat.le_of_ble_eq_true rfl, Nat.le_of_ble_eq_true rfl⟩ (fun u_6 H locs hw_6 hP hD hS => ?_)
          obtain ⟨lv2_6, eu_6⟩ : ∃ z, z = u_6 := ⟨_, rfl⟩
          subst eu_6
          have hP : va_P (dC, dI) vwCl (wR cA r0 r1 r2 r3 r4 r5 r6 row rs (va_up tg1 nd1 (row pl1)) (va_up st1 nd1 xa_3) (va_up ln1 nd1 xn_3) (upd pa1 nd1 (parI lv1 ar1)) (nd1 + 1) (va_up ar1 lv1 nd1) lv2_6 of) H := hP
          have hD : va_D A (wR cA r0 r1 r2 r3 r4 r5 r6 row rs (va_up tg1 nd1 (row pl1)) (va_up st1 nd1 xa_3) (va_up ln1 nd1 xn_3) (upd pa1 nd1 (parI lv1 ar1)) (nd1 + 1) (va_up ar1 lv1 nd1) lv2_6 of) := hD
          have hw_6 : lv2_6 = popN (va_up st1 nd1 xa_3) (va_up ln1 nd1 xn_3) (va_up ar1 lv1 nd1) xa_3 (lv1 + 1) := hw_6
          have e0_6 := hw_6
          have e0_6 := e0_6.symm
          subst e0_6
          have hV : nxV row pl1 nd1 lv1 st1 ln1 ar1 (xn_3, xa_3) = popN (va_up st1 nd1 xa_3) (va_up ln1 nd1 xn_3) (va_up ar1 lv1 nd1) xa_3 (lv1 + 1) := by unfold nxV; rw [hAp, hLp, hPp]
          rw [hV, hPp, hAp] at hnx
          have hpl16 := hnx.2.1
          refine lv_aload_n hx hb dX0_readValues_38 rfl (lv_at hl 3 rfl) ?_
          refine va_get (D := (dC, dI)) (ci := 0) (v := .int (nI (popN (va_up st1 nd1 xa_3) (va_up ln1 nd1 xn_3) (va_up ar1 lv1 nd1) xa_3 (lv1 + 1)))) (C := RX0) (T := TX0) (N := 10) hx hb hts hinX0 hown hK hP 0 rfl rfl 8 (by decide) hf_37 (fun _ h9 => h9) rfl dX0_readValues_39 ?_
          refine hl_if_ne (tgt := 65) hx hb dX0_readValues_42 (by decide) (by omega) (fun c_7 => ?_) (fun c_7 => ?_)
          · have hV0 := c_7
            rw [← hV] at hV0
            refine lv_iinc (v := (nI (v1 + 1))) (lv' := [(2, .int (nI (v1 + 1))), (1, .int (nI xa_3)), (3, .int (nI 0)), (0, .ref r0)]) hx hb dX0_readValues_65 hl (k := 2) rfl (nI_inc v1 1) (by decide) rfl (fun ls hl => ?_)
            refine lv_goto (tgt := 4) hx hb dX0_readValues_68 (by decide) ?_
            exact ih_4 xa_3 (v1 + 1) (nd1 + 1) (popN (va_up st1 nd1 xa_3) (va_up ln1 nd1 xn_3) (va_up ar1 lv1 nd1) xa_3 (lv1 + 1)) (va_up tg1 nd1 (row pl1)) (va_up st1 nd1 xa_3) (va_up ln1 nd1 xn_3) (va_up ar1 lv1 nd1) (upd pa1 nd1 (parI lv1 ar1)) (by omega) hnx (by omega) (by rw [← hrun, show 65 - nd1 = (65 - (nd1 + 1)) + 1 by omega, run_go hval hV0]; unfold nxS; rw [hV, hPp, hAp]) _ _ _ hP hD hS (lv_sub hl [0, 1, 3] rfl)
          · refine lv_iload_n hx hb dX0_readValues_45 rfl (lv_at hl 0 rfl) ?_
            refine lv_aload_n hx hb dX0_readValues_46 rfl (lv_at hl 3 rfl) ?_
            refine va_get (D := (dC, dI)) (ci := 0) (v := .int (nI rs)) (C := RX0) (T := TX0) (N := 10) hx hb hts hinX0 hown hK hP 0 rfl rfl 1 (by decide) hf_15 (fun _ h9 => h9) rfl dX0_readValues_47 ?_
            refine hl_icmp_ge (tgt := 63) hx hb dX0_readValues_50 (by decide) (by omega) (by omega) (fun c_8 => ?_) (fun c_8 => ?_)
            · refine lv_iconst (v := nI 0) hx hb dX0_readValues_63 (by decide) ?_
              have hP9 : va_P (dC, dI) vwCl (vX0_readValues cA r0 r1 r2 r3 r4 r5 r6 row rs tg st ln pa ar of (of, nd1 + 1, popN (va_up st1 nd1 xa_3) (va_up ln1 nd1 xn_3) (va_up ar1 lv1 nd1) xa_3 (lv1 + 1), va_up tg1 nd1 (row pl1), va_up st1 nd1 xa_3, va_up ln1 nd1 xn_3, va_up ar1 lv1 nd1, upd pa1 nd1 (parI lv1 ar1), xa_3)) _ := hP
              have hD9 : va_D A (vX0_readValues cA r0 r1 r2 r3 r4 r5 r6 row rs tg st ln pa ar of (of, nd1 + 1, popN (va_up st1 nd1 xa_3) (va_up ln1 nd1 xn_3) (va_up ar1 lv1 nd1) xa_3 (lv1 + 1), va_up tg1 nd1 (row pl1), va_up st1 nd1 xa_3, va_up ln1 nd1 xn_3, va_up ar1 lv1 nd1, upd pa1 nd1 (parI lv1 ar1), xa_3)) := hD
              have hq9 : pX0_readValues r0 r1 r2 r3 r4 r5 r6 row rs tg st ln pa ar of (nI 0) (of, nd1 + 1, popN (va_up st1 nd1 xa_3) (va_up ln1 nd1 xn_3) (va_up ar1 lv1 nd1) xa_3 (lv1 + 1), va_up tg1 nd1 (row pl1), va_up st1 nd1 xa_3, va_up ln1 nd1 xn_3, va_up ar1 lv1 nd1, upd pa1 nd1 (parI lv1 ar1), xa_3) := ⟨Or.inl ⟨by rw [← hrun, show 65 - nd1 = (64 - nd1) + 1 by omega]; rw [run_ok hval (by rw [hV]; assumption) (by rw [hPp]; omega)]; unfold nxS; rw [hV, hPp, hAp], rfl, rfl, hnx, by omega⟩, hb1, hb2, hb3, hb4, by omega, hpl16⟩
              exact W.iret (v := nI 0) hx hb hr (fun t ht hW => ⟨⟨nI 0, (of, nd1 + 1, popN (va_up st1 nd1 xa_3) (va_up ln1 nd1 xn_3) (va_up ar1 lv1 nd1) xa_3 (lv1 + 1), va_up tg1 nd1 (row pl1), va_up st1 nd1 xa_3, va_up ln1 nd1 xn_3, va_up ar1 lv1 nd1, upd pa1 nd1 (parI lv1 ar1), xa_3), rfl, hq9, by rw [ht]; exact hP9, va_K.moved hW.alike hK, hD9⟩, hS.F ht⟩) hS.2.2 dX0_readValues_64
            · refine lv_aload_n hx hb dX0_readValues_53 rfl (lv_at hl 3 rfl) ?_
              refine lv_bipush (v := (-6)) hx hb dX0_readValues_54 (by decide) ?_
              refine lv_iload_n hx hb dX0_readValues_56 rfl (lv_at hl 0 rfl) ?_
              refine cl_Vi (As := [.int (-6), .int (nI xa_3)]) (rest := []) (wr := []) ⟨hx, hb, hml, hown, hts⟩ (k_X0_offend l dC dI cA r0 r1 r2 r3 r4 r5 r6 row rs (va_up tg1 nd1 (row pl1)) (va_up st1 nd1 xa_3) (va_up ln1 nd1 xn_3) (upd pa1 nd1 (parI lv1 ar1)) (nd1 + 1) (va_up ar1 lv1 nd1) (popN (va_up st1 nd1 xa_3) (va_up ln1 nd1 xn_3) (va_up ar1 lv1 nd1) xa_3 (lv1 + 1)) of (-6) (nI xa_3) _ ) (cwV 2 hts gX0_readValues_X0_offend rfl rfl rfl (by decide +kernel) ⟨Nat.le_of_ble_eq_true rfl, Nat.le_of_ble_eq_true rfl⟩) hK hP hD hS hA [0, 1, 2, 3, 4, 5, 6] [] rfl rfl (by decide) (by decide) (by decide) (ci := 0) (q0 := 0) rfl rfl rfl rfl hl.1 rfl (Nat.le_of_ble_eq_true rfl) dX0_readValues_57 ⟨Nat.le_of_ble_eq_true rfl, Nat.le_of_ble_eq_true rfl⟩ (fun r_9 u_9 H locs hw_9 hP hD hS => ?_)
              obtain ⟨of2_9, eu_9⟩ : ∃ z, z = u_9 := ⟨_, rfl⟩
              subst eu_9
              have hP : va_P (dC, dI) vwCl (wR cA r0 r1 r2 r3 r4 r5 r6 row rs (va_up tg1 nd1 (row pl1)) (va_up st1 nd1 xa_3) (va_up ln1 nd1 xn_3) (upd pa1 nd1 (parI lv1 ar1)) (nd1 + 1) (va_up ar1 lv1 nd1) (popN (va_up st1 nd1 xa_3) (va_up ln1 nd1 xn_3) (va_up ar1 lv1 nd1) xa_3 (lv1 + 1)) of2_9) H := hP
              have hD : va_D A (wR cA r0 r1 r2 r3 r4 r5 r6 row rs (va_up tg1 nd1 (row pl1)) (va_up st1 nd1 xa_3) (va_up ln1 nd1 xn_3) (upd pa1 nd1 (parI lv1 ar1)) (nd1 + 1) (va_up ar1 lv1 nd1) (popN (va_up st1 nd1 xa_3) (va_up ln1 nd1 xn_3) (va_up ar1 lv1 nd1) xa_3 (lv1 + 1)) of2_9) := hD
              have hw_9 : r_9 = (-6) ∧ of2_9 = (nI xa_3) := hw_9
              obtain ⟨e0_9, e1_9⟩ := hw_9
              have e0_9 := e0_9.symm
              subst e0_9
              have e1_9 := e1_9.symm
              subst e1_9
              refine lv_goto (tgt := 64) hx hb dX0_readValues_60 (by decide) ?_
              have hP9 : va_P (dC, dI) vwCl (vX0_readValues cA r0 r1 r2 r3 r4 r5 r6 row rs tg st ln pa ar of ((nI xa_3), nd1 + 1, popN (va_up st1 nd1 xa_3) (va_up ln1 nd1 xn_3) (va_up ar1 lv1 nd1) xa_3 (lv1 + 1), va_up tg1 nd1 (row pl1), va_up st1 nd1 xa_3, va_up ln1 nd1 xn_3, va_up ar1 lv1 nd1, upd pa1 nd1 (parI lv1 ar1), xa_3)) _ := hP
              have hD9 : va_D A (vX0_readValues cA r0 r1 r2 r3 r4 r5 r6 row rs tg st ln pa ar of ((nI xa_3), nd1 + 1, popN (va_up st1 nd1 xa_3) (va_up ln1 nd1 xn_3) (va_up ar1 lv1 nd1) xa_3 (lv1 + 1), va_up tg1 nd1 (row pl1), va_up st1 nd1 xa_3, va_up ln1 nd1 xn_3, va_up ar1 lv1 nd1, upd pa1 nd1 (parI lv1 ar1), xa_3)) := hD
              have hq9 : pX0_readValues r0 r1 r2 r3 r4 r5 r6 row rs tg st ln pa ar of ((-6)) ((nI xa_3), nd1 + 1, popN (va_up st1 nd1 xa_3) (va_up ln1 nd1 xn_3) (va_up ar1 lv1 nd1) xa_3 (lv1 + 1), va_up tg1 nd1 (row pl1), va_up st1 nd1 xa_3, va_up ln1 nd1 xn_3, va_up ar1 lv1 nd1, upd pa1 nd1 (parI lv1 ar1), xa_3) := ⟨Or.inr ⟨by rw [← hrun, show 65 - nd1 = (64 - nd1) + 1 by omega]; rw [run_end hval (by rw [hV]; assumption) (by rw [hPp]; omega), hPp], by decide⟩, hb1, hb2, hb3, hb4, by omega, hpl16⟩
              exact W.iret (v := (-6)) hx hb hr (fun t ht hW => ⟨⟨(-6), ((nI xa_3), nd1 + 1, popN (va_up st1 nd1 xa_3) (va_up ln1 nd1 xn_3) (va_up ar1 lv1 nd1) xa_3 (lv1 + 1), va_up tg1 nd1 (row pl1), va_up st1 nd1 xa_3, va_up ln1 nd1 xn_3, va_up ar1 lv1 nd1, upd pa1 nd1 (parI lv1 ar1), xa_3), rfl, hq9, by rw [ht]; exact hP9, va_K.moved hW.alike hK, hD9⟩, hS.F ht⟩) hS.2.2 dX0_readValues_64
        · have e1_5 := e1_5.symm
          subst e1_5
          have e2_5 := e2_5.symm
          subst e2_5
          have e3_5 := e3_5.symm
          subst e3_5
          have hAp : nxA row pl1 nd1 lv1 ar1 = ar1 := if_neg hsq_5
          have hLp : nxL row pl1 lv1 = lv1 := if_neg hsq_5
          have hPp : nxP row pl1 (xn_3, xa_3) = xa_3 + xn_3 := if_neg hsq_5
          have hb4 : ∀ j, (ar1 : Nat → Nat) j < 64 := i7
          refine lv_istore_n (lv' := [(1, .int (nI (xa_3 + xn_3))), (3, .int (nI 0)), (2, .int (nI v1)), (0, .ref r0)]) hx hb dX0_readValues_32 rfl hl (by decide) rfl (fun ls hl => ?_)
          refine lv_aload_n hx hb dX0_readValues_33 rfl (lv_at hl 3 rfl) ?_
          refine lv_iload_n hx hb dX0_readValues_34 rfl (lv_at hl 0 rfl) ?_
          refine cl_Vv (As := [.int (nI (xa_3 + xn_3))]) (rest := []) (wr := []) ⟨hx, hb, hml, hown, hts⟩ (k_X0_leaveSequencesThatEndAt l dC dI cA r0 r1 r2 r3 r4 r5 r6 row rs (va_up tg1 nd1 (row pl1)) (va_up st1 nd1 xa_3) (va_up ln1 nd1 xn_3) (upd pa1 nd1 (parI lv1 ar1)) (nd1 + 1) ar1 lv1 of (xa_3 + xn_3) _ hb2 hb3 hb4 (by omega) (by omega)) (cwV 1 hts gX0_readValues_X0_leaveSequencesThatEndAt rfl rfl rfl (by decide +kernel) ⟨Nat.le_of_ble_eq_true rfl, Nat.le_of_ble_eq_true rfl⟩) hK hP hD hS hA [0, 1, 2, 3, 4, 5, 6] [] rfl rfl (by decide) (by decide) (by decide) (ci := 0) (q0 := 0) rfl rfl rfl rfl hl.1 rfl (Nat.le_of_ble_eq_true rfl) dX0_readValues_35 ⟨Nat.le_of_ble_eq_true rfl, Nat.le_of_ble_eq_true rfl⟩ (fun u_10 H locs hw_10 hP hD hS => ?_)
          obtain ⟨lv2_10, eu_10⟩ : ∃ z, z = u_10 := ⟨_, rfl⟩
          subst eu_10
          have hP : va_P (dC, dI) vwCl (wR cA r0 r1 r2 r3 r4 r5 r6 row rs (va_up tg1 nd1 (row pl1)) (va_up st1 nd1 xa_3) (va_up ln1 nd1 xn_3) (upd pa1 nd1 (parI lv1 ar1)) (nd1 + 1) ar1 lv2_10 of) H := hP
          have hD : va_D A (wR cA r0 r1 r2 r3 r4 r5 r6 row rs (va_up tg1 nd1 (row pl1)) (va_up st1 nd1 xa_3) (va_up ln1 nd1 xn_3) (upd pa1 nd1 (parI lv1 ar1)) (nd1 + 1) ar1 lv2_10 of) := hD
          have hw_10 : lv2_10 = popN (va_up st1 nd1 xa_3) (va_up ln1 nd1 xn_3) ar1 (xa_3 + xn_3) lv1 := hw_10
          have e0_10 := hw_10
          have e0_10 := e0_10.symm
          subst e0_10
          have hV : nxV row pl1 nd1 lv1 st1 ln1 ar1 (xn_3, xa_3) = popN (va_up st1 nd1 xa_3) (va_up ln1 nd1 xn_3) ar1 (xa_3 + xn_3) lv1 := by unfold nxV; rw [hAp, hLp, hPp]
          rw [hV, hPp, hAp] at hnx
          have hpl16 := hnx.2.1
          refine lv_aload_n hx hb dX0_readValues_38 rfl (lv_at hl 3 rfl) ?_
          refine va_get (D := (dC, dI)) (ci := 0) (v := .int (nI (popN (va_up st1 nd1 xa_3) (va_up ln1 nd1 xn_3) ar1 (xa_3 + xn_3) lv1))) (C := RX0) (T := TX0) (N := 10) hx hb hts hinX0 hown hK hP 0 rfl rfl 8 (by decide) hf_37 (fun _ h9 => h9) rfl dX0_readValues_39 ?_
          refine hl_if_ne (tgt := 65) hx hb dX0_readValues_42 (by decide) (by omega) (fun c_11 => ?_) (fun c_11 => ?_)
          · have hV0 := c_11
            rw [← hV] at hV0
            refine lv_iinc (v := (nI (v1 + 1))) (lv' := [(2, .int (nI (v1 + 1))), (1, .int (nI (xa_3 + xn_3))), (3, .int (nI 0)), (0, .ref r0)]) hx hb dX0_readValues_65 hl (k := 2) rfl (nI_inc v1 1) (by decide) rfl (fun ls hl => ?_)
            refine lv_goto (tgt := 4) hx hb dX0_readValues_68 (by decide) ?_
            exact ih_4 (xa_3 + xn_3) (v1 + 1) (nd1 + 1) (popN (va_up st1 nd1 xa_3) (va_up ln1 nd1 xn_3) ar1 (xa_3 + xn_3) lv1) (va_up tg1 nd1 (row pl1)) (va_up st1 nd1 xa_3) (va_up ln1 nd1 xn_3) ar1 (upd pa1 nd1 (parI lv1 ar1)) (by omega) hnx (by omega) (by rw [← hrun, show 65 - nd1 = (65 - (nd1 + 1)) + 1 by omega, run_go hval hV0]; unfold nxS; rw [hV, hPp, hAp]) _ _ _ hP hD hS (lv_sub hl [0, 1, 3] rfl)
          · refine lv_iload_n hx hb dX0_readValues_45 rfl (lv_at hl 0 rfl) ?_
            refine lv_aload_n hx hb dX0_readValues_46 rfl (lv_at hl 3 rfl) ?_
            refine va_get (D := (dC, dI)) (ci := 0) (v := .int (nI rs)) (C := RX0) (T := TX0) (N := 10) hx hb hts hinX0 hown hK hP 0 rfl rfl 1 (by decide) hf_15 (fun _ h9 => h9) rfl dX0_readValues_47 ?_
            refine hl_icmp_ge (tgt := 63) hx hb dX0_readValues_50 (by decide) (by omega) (by omega) (fun c_12 => ?_) (fun c_12 => ?_)
            · refine lv_iconst (v := nI 0) hx hb dX0_readValues_63 (by decide) ?_
              have hP9 : va_P (dC, dI) vwCl (vX0_readValues cA r0 r1 r2 r3 r4 r5 r6 row rs tg st ln pa ar of (of, nd1 + 1, popN (va_up st1 nd1 xa_3) (va_up ln1 nd1 xn_3) ar1 (xa_3 + xn_3) lv1, va_up tg1 nd1 (row pl1), va_up st1 nd1 xa_3, va_up ln1 nd1 xn_3, ar1, upd pa1 nd1 (parI lv1 ar1), xa_3 + xn_3)) _ := hP
              have hD9 : va_D A (vX0_readValues cA r0 r1 r2 r3 r4 r5 r6 row rs tg st ln pa ar of (of, nd1 + 1, popN (va_up st1 nd1 xa_3) (va_up ln1 nd1 xn_3) ar1 (xa_3 + xn_3) lv1, va_up tg1 nd1 (row pl1), va_up st1 nd1 xa_3, va_up ln1 nd1 xn_3, ar1, upd pa1 nd1 (parI lv1 ar1), xa_3 + xn_3)) := hD
              have hq9 : pX0_readValues r0 r1 r2 r3 r4 r5 r6 row rs tg st ln pa ar of (nI 0) (of, nd1 + 1, popN (va_up st1 nd1 xa_3) (va_up ln1 nd1 xn_3) ar1 (xa_3 + xn_3) lv1, va_up tg1 nd1 (row pl1), va_up st1 nd1 xa_3, va_up ln1 nd1 xn_3, ar1, upd pa1 nd1 (parI lv1 ar1), xa_3 + xn_3) := ⟨Or.inl ⟨by rw [← hrun, show 65 - nd1 = (64 - nd1) + 1 by omega]; rw [run_ok hval (by rw [hV]; assumption) (by rw [hPp]; omega)]; unfold nxS; rw [hV, hPp, hAp], rfl, rfl, hnx, by omega⟩, hb1, hb2, hb3, hb4, by omega, hpl16⟩
              exact W.iret (v := nI 0) hx hb hr (fun t ht hW => ⟨⟨nI 0, (of, nd1 + 1, popN (va_up st1 nd1 xa_3) (va_up ln1 nd1 xn_3) ar1 (xa_3 + xn_3) lv1, va_up tg1 nd1 (row pl1), va_up st1 nd1 xa_3, va_up ln1 nd1 xn_3, ar1, upd pa1 nd1 (parI lv1 ar1), xa_3 + xn_3), rfl, hq9, by rw [ht]; exact hP9, va_K.moved hW.alike hK, hD9⟩, hS.F ht⟩) hS.2.2 dX0_readValues_64
            · refine lv_aload_n hx hb dX0_readValues_53 rfl (lv_at hl 3 rfl) ?_
              refine lv_bipush (v := (-6)) hx hb dX0_readValues_54 (by decide) ?_
              refine lv_iload_n hx hb dX0_readValues_56 rfl (lv_at hl 0 rfl) ?_
              refine cl_Vi (As := [.int (-6), .int (nI (xa_3 + xn_3))]) (rest := []) (wr := []) ⟨hx, hb, hml, hown, hts⟩ (k_X0_offend l dC dI cA r0 r1 r2 r3 r4 r5 r6 row rs (va_up tg1 nd1 (row pl1)) (va_up st1 nd1 xa_3) (va_up ln1 nd1 xn_3) (upd pa1 nd1 (parI lv1 ar1)) (nd1 + 1) ar1 (popN (va_up st1 nd1 xa_3) (va_up ln1 nd1 xn_3) ar1 (xa_3 + xn_3) lv1) of (-6) (nI (xa_3 + xn_3)) _ ) (cwV 2 hts gX0_readValues_X0_offend rfl rfl rfl (by decide +kernel) ⟨Nat.le_of_ble_eq_true rfl, Nat.le_of_ble_eq_true rfl⟩) hK hP hD hS hA [0, 1, 2, 3, 4, 5, 6] [] rfl rfl (by decide) (by decide) (by decide) (ci := 0) (q0 := 0) rfl rfl rfl rfl hl.1 rfl (Nat.le_of_ble_eq_true rfl) dX0_readValues_57 ⟨Nat.le_of_ble_eq_true rfl, Nat.le_of_ble_eq_true rfl⟩ (fun r_13 u_13 H locs hw_13 hP hD hS => ?_)
              obtain ⟨of2_13, eu_13⟩ : ∃ z, z = u_13 := ⟨_, rfl⟩
              subst eu_13
              have hP : va_P (dC, dI) vwCl (wR cA r0 r1 r2 r3 r4 r5 r6 row rs (va_up tg1 nd1 (row pl1)) (va_up st1 nd1 xa_3) (va_up ln1 nd1 xn_3) (upd pa1 nd1 (parI lv1 ar1)) (nd1 + 1) ar1 (popN (va_up st1 nd1 xa_3) (va_up ln1 nd1 xn_3) ar1 (xa_3 + xn_3) lv1) of2_13) H := hP
              have hD : va_D A (wR cA r0 r1 r2 r3 r4 r5 r6 row rs (va_up tg1 nd1 (row pl1)) (va_up st1 nd1 xa_3) (va_up ln1 nd1 xn_3) (upd pa1 nd1 (parI lv1 ar1)) (nd1 + 1) ar1 (popN (va_up st1 nd1 xa_3) (va_up ln1 nd1 xn_3) ar1 (xa_3 + xn_3) lv1) of2_13) := hD
              have hw_13 : r_13 = (-6) ∧ of2_13 = (nI (xa_3 + xn_3)) := hw_13
              obtain ⟨e0_13, e1_13⟩ := hw_13
              have e0_13 := e0_13.symm
              subst e0_13
              have e1_13 := e1_13.symm
              subst e1_13
              refine lv_goto (tgt := 64) hx hb dX0_readValues_60 (by decide) ?_
              have hP9 : va_P (dC, dI) vwCl (vX0_readValues cA r0 r1 r2 r3 r4 r5 r6 row rs tg st ln pa ar of ((nI (xa_3 + xn_3)), nd1 + 1, popN (va_up st1 nd1 xa_3) (va_up ln1 nd1 xn_3) ar1 (xa_3 + xn_3) lv1, va_up tg1 nd1 (row pl1), va_up st1 nd1 xa_3, va_up ln1 nd1 xn_3, ar1, upd pa1 nd1 (parI lv1 ar1), xa_3 + xn_3)) _ := hP
              have hD9 : va_D A (vX0_readValues cA r0 r1 r2 r3 r4 r5 r6 row rs tg st ln pa ar of ((nI (xa_3 + xn_3)), nd1 + 1, popN (va_up st1 nd1 xa_3) (va_up ln1 nd1 xn_3) ar1 (xa_3 + xn_3) lv1, va_up tg1 nd1 (row pl1), va_up st1 nd1 xa_3, va_up ln1 nd1 xn_3, ar1, upd pa1 nd1 (parI lv1 ar1), xa_3 + xn_3)) := hD
              have hq9 : pX0_readValues r0 r1 r2 r3 r4 r5 r6 row rs tg st ln pa ar of ((-6)) ((nI (xa_3 + xn_3)), nd1 + 1, popN (va_up st1 nd1 xa_3) (va_up ln1 nd1 xn_3) ar1 (xa_3 + xn_3) lv1, va_up tg1 nd1 (row pl1), va_up st1 nd1 xa_3, va_up ln1 nd1 xn_3, ar1, upd pa1 nd1 (parI lv1 ar1), xa_3 + xn_3) := ⟨Or.inr ⟨by rw [← hrun, show 65 - nd1 = (64 - nd1) + 1 by omega]; rw [run_end hval (by rw [hV]; assumption) (by rw [hPp]; omega), hPp], by decide⟩, hb1, hb2, hb3, hb4, by omega, hpl16⟩
              exact W.iret (v := (-6)) hx hb hr (fun t ht hW => ⟨⟨(-6), ((nI (xa_3 + xn_3)), nd1 + 1, popN (va_up st1 nd1 xa_3) (va_up ln1 nd1 xn_3) ar1 (xa_3 + xn_3) lv1, va_up tg1 nd1 (row pl1), va_up st1 nd1 xa_3, va_up ln1 nd1 xn_3, ar1, upd pa1 nd1 (parI lv1 ar1), xa_3 + xn_3), rfl, hq9, by rw [ht]; exact hP9, va_K.moved hW.alike hK, hD9⟩, hS.F ht⟩) hS.2.2 dX0_readValues_64
      · have e2_3 := e2_3.symm
        subst e2_3
        refine lv_istore_n (lv' := [(3, .int r_3), (2, .int (nI v1)), (1, .int (nI pl1)), (0, .ref r0)]) hx hb dX0_readValues_15 rfl hl (by decide) rfl (fun ls hl => ?_)
        refine lv_iload_n hx hb dX0_readValues_16 rfl (lv_at hl 0 rfl) ?_
        refine lv_if_eq (tgt := 22) hx hb dX0_readValues_17 (by decide) (fun c_14 => absurd c_14 hne_3) (fun c_14 => ?_)
        refine lv_iload_n hx hb dX0_readValues_20 rfl (lv_at hl 0 rfl) ?_
        have hP9 : va_P (dC, dI) vwCl (vX0_readValues cA r0 r1 r2 r3 r4 r5 r6 row rs tg st ln pa ar of (of2_3, nd1, lv1, tg2_3, st2_3, ln2_3, ar1, pa2_3, 0)) _ := hP
        have hD9 : va_D A (vX0_readValues cA r0 r1 r2 r3 r4 r5 r6 row rs tg st ln pa ar of (of2_3, nd1, lv1, tg2_3, st2_3, ln2_3, ar1, pa2_3, 0)) := hD
        have hq9 : pX0_readValues r0 r1 r2 r3 r4 r5 r6 row rs tg st ln pa ar of (r_3) (of2_3, nd1, lv1, tg2_3, st2_3, ln2_3, ar1, pa2_3, 0) := ⟨Or.inr ⟨by rw [← hrun, show 65 - nd1 = (64 - nd1) + 1 by omega]; exact run_err hval_3, hne_3⟩, hb1, hb2, hb3, i7, by omega, i2⟩
        exact W.iret (v := r_3) hx hb hr (fun t ht hW => ⟨⟨r_3, (of2_3, nd1, lv1, tg2_3, st2_3, ln2_3, ar1, pa2_3, 0), rfl, hq9, by rw [ht]; exact hP9, va_K.moved hW.alike hK, hD9⟩, hS.F ht⟩) hS.2.2 dX0_readValues_21
  exact lp_4 (65 - 0 + 1) 0 0 0 0 tg st ln ar pa (Nat.lt_succ_self _) (PInv.start htg hst hln har) rfl rfl _ _ _ hP hD hS (lv_sub hl [0, 1, 2] rfl)
abbrev pX0_readRow (r0 : Nat) (r1 : Nat) (r2 : Nat) (r3 : Nat) (r4 : Nat) (r5 : Nat) (r6 : Nat) (row : Nat → Nat) (rs : Nat) (tg : Nat → Nat) (st : Nat → Nat) (ln : Nat → Nat) (pa : Nat → Int32) (nd : Nat) (ar : Nat → Nat) (lv : Nat) (of : Int32) : Int32 → Int32 × Nat × Nat × (Nat → Nat) × (Nat → Nat) × (Nat → Nat) × (Nat → Nat) × (Nat → Int32) × Nat → Prop := fun (r : Int32) (u : Int32 × Nat × Nat × (Nat → Nat) × (Nat → Nat) × (Nat → Nat) × (Nat → Nat) × (Nat → Int32) × Nat) => match u with | (of2, nd2, lv2, tg2, st2, ln2, ar2, pa2, pl2) => ((runS row rs 65 (0, 0, 0, tg, st, ln, ar, pa) = .inr (pl2, nd2, lv2, tg2, st2, ln2, ar2, pa2) ∧ r = nI 0 ∧ of2 = -1 ∧ PInv rs pl2 nd2 lv2 tg2 st2 ln2 ar2 ∧ 0 < nd2) ∨ (runS row rs 65 (0, 0, 0, tg, st, ln, ar, pa) = .inl (r, of2) ∧ r ≠ 0 ∧ nd2 = 0)) ∧ (∀ j, tg2 j < 256) ∧ (∀ j, st2 j < 1000) ∧ (∀ j, ln2 j < 65536) ∧ (∀ j, ar2 j < 64) ∧ nd2 ≤ 64 ∧ lv2 ≤ 16
abbrev vX0_readRow (cA : ClassId) (r0 : Nat) (r1 : Nat) (r2 : Nat) (r3 : Nat) (r4 : Nat) (r5 : Nat) (r6 : Nat) (row : Nat → Nat) (rs : Nat) (tg : Nat → Nat) (st : Nat → Nat) (ln : Nat → Nat) (pa : Nat → Int32) (nd : Nat) (ar : Nat → Nat) (lv : Nat) (of : Int32) : Int32 × Nat × Nat × (Nat → Nat) × (Nat → Nat) × (Nat → Nat) × (Nat → Nat) × (Nat → Int32) × Nat → va_W := fun (u : Int32 × Nat × Nat × (Nat → Nat) × (Nat → Nat) × (Nat → Nat) × (Nat → Nat) × (Nat → Int32) × Nat) => match u with | (of2, nd2, lv2, tg2, st2, ln2, ar2, pa2, pl2) => wR cA r0 r1 r2 r3 r4 r5 r6 row rs tg2 st2 ln2 pa2 nd2 ar2 lv2 of2
abbrev qX0_readRow (dC : Nat → ClassId) (dI : Nat → Nat → Nat) (cA : ClassId) (A : Nat → Prop) (r0 : Nat) (r1 : Nat) (r2 : Nat) (r3 : Nat) (r4 : Nat) (r5 : Nat) (r6 : Nat) (row : Nat → Nat) (rs : Nat) (tg : Nat → Nat) (st : Nat → Nat) (ln : Nat → Nat) (pa : Nat → Int32) (nd : Nat) (ar : Nat → Nat) (lv : Nat) (of : Int32) : Array Value → State → Outcome → State → Prop := va_Qi (pX0_readRow r0 r1 r2 r3 r4 r5 r6 row rs tg st ln pa nd ar lv of) (fun u => cAft dC dI cA A (vX0_readRow cA r0 r1 r2 r3 r4 r5 r6 row rs tg st ln pa nd ar lv of u)) A
set_option maxHeartbeats 4000000 in
set_option maxRecDepth 100000 in
theorem k_X0_readRow (l : Launch) (dC : Nat → ClassId) (dI : Nat → Nat → Nat) (cA : ClassId) (r0 : Nat) (r1 : Nat) (r2 : Nat) (r3 : Nat) (r4 : Nat) (r5 : Nat) (r6 : Nat) (row : Nat → Nat) (rs : Nat) (tg : Nat → Nat) (st : Nat → Nat) (ln : Nat → Nat) (pa : Nat → Int32) (nd : Nat) (ar : Nat → Nat) (lv : Nat) (of : Int32) (sz : Nat) (hrow : ∀ j, row j < 256) (htg : ∀ j, tg j < 256) (hst : ∀ j, st j < 1000) (hln : ∀ j, ln j < 65536) (har : ∀ j, ar j < 64) (hrs : rs ≤ 300) : Met l yX0_readRow wsX0_readRow ({ frames := 5, cells := 0, slots := 0, locals := 115 } : Room) (va_Pc [.ref r0] (cPre dC dI cA (wR cA r0 r1 r2 r3 r4 r5 r6 row rs tg st ln pa nd ar lv of) sz)) (qX0_readRow dC dI cA (va_A (wR cA r0 r1 r2 r3 r4 r5 r6 row rs tg st ln pa nd ar lv of) sz) r0 r1 r2 r3 r4 r5 r6 row rs tg st ln pa nd ar lv of) 0 0 (va_A (wR cA r0 r1 r2 r3 r4 r5 r6 row rs tg st ln pa nd ar lv of) sz) := by
  refine Met.ofW (cc := cX0_readRow) (maxL := 2) (ret := (some .int)) (by decide) rfl ?_
  intro p e s m args below meth c s₁ B hml hv
  obtain ⟨rfl, hsz, hP, hK, hD0⟩ := hv
  have hx := B.exec
  have hb := B.bytes
  have hr := B.returns
  have hts := atoms_spec (ws := wsX0_readRow) B.pre
  have hown : s.vm.findClass RX0 = some m.cls := findClass_of_methodNamed B.named
  have hlocks := B.notSynchronized
  subst hsz
  have hD := hD0.self (sz := s.heap.size)
  generalize hAe : va_A (wR cA r0 r1 r2 r3 r4 r5 r6 row rs tg st ln pa nd ar lv of) s.heap.size = A at hD ⊢
  have hA : ∀ q : Nat, s.heap.size ≤ q → A q := fun q h => by rw [← hAe]; exact Or.inr h
  have hS : va_S A s.heap s.heap [] := va_S.rf
  have hl := lv_entry ([.ref r0]) (n := 2) (Nat.le_of_ble_eq_true rfl)
  rw [lg_entry_eq]
  generalize (lg_sl ([.ref r0]) ++ List.replicate (2 - (lg_sl ([.ref r0])).length) Slot.unset).toArray = ls at hl ⊢
  have hl : lv_has ls 2 [(0, .ref r0)] := hl
  have hinX0 : ∀ w ∈ wsX00, w ∈ wsX0_readRow := fun _ h => List.mem_cons_of_mem _ (List.mem_append_right _ h)
  have hf_31 := hts (.fieldLink RX0 31 "DerDesk$Reader" "nodes" "I") (by decide +kernel)
  have hf_37 := hts (.fieldLink RX0 37 "DerDesk$Reader" "level" "I") (by decide +kernel)
  have hf_40 := hts (.fieldLink RX0 40 "DerDesk$Reader" "offencePlace" "I") (by decide +kernel)
  have hP : va_P (dC, dI) vwCl (wR cA r0 r1 r2 r3 r4 r5 r6 row rs tg st ln pa nd ar lv of) s.heap := hP
  refine lv_aload_n hx hb dX0_readRow_0 rfl (lv_at hl 0 rfl) ?_
  refine lv_iconst (v := nI 0) hx hb dX0_readRow_1 (by decide) ?_
  refine va_put (D := (dC, dI)) (ci := 0) (v := .int (nI 0)) (ty := .int) (C := RX0) (T := TX0) (N := 10) hx hb hts hinX0 tyX0 tyX0_ok nmX0 hown hK hP hD hS 0 rfl rfl 6 (by decide) hf_31 (fun _ h9 => h9) rfl (by decide +kernel) rfl rfl (Nat.le_of_ble_eq_true rfl) dX0_readRow_2 (fun H locs hP hD hS => ?_)
  have hP : va_P (dC, dI) vwCl (wR cA r0 r1 r2 r3 r4 r5 r6 row rs tg st ln pa 0 ar lv of) H := hP
  have hD : va_D A (wR cA r0 r1 r2 r3 r4 r5 r6 row rs tg st ln pa 0 ar lv of) := hD
  refine lv_aload_n hx hb dX0_readRow_5 rfl (lv_at hl 0 rfl) ?_
  refine lv_iconst (v := nI 0) hx hb dX0_readRow_6 (by decide) ?_
  refine va_put (D := (dC, dI)) (ci := 0) (v := .int (nI 0)) (ty := .int) (C := RX0) (T := TX0) (N := 10) hx hb hts hinX0 tyX0 tyX0_ok nmX0 hown hK hP hD hS 0 rfl rfl 8 (by decide) hf_37 (fun _ h9 => h9) rfl (by decide +kernel) rfl rfl (Nat.le_of_ble_eq_true rfl) dX0_readRow_7 (fun H locs hP hD hS => ?_)
  have hP : va_P (dC, dI) vwCl (wR cA r0 r1 r2 r3 r4 r5 r6 row rs tg st ln pa 0 ar 0 of) H := hP
  have hD : va_D A (wR cA r0 r1 r2 r3 r4 r5 r6 row rs tg st ln pa 0 ar 0 of) := hD
  refine lv_aload_n hx hb dX0_readRow_10 rfl (lv_at hl 0 rfl) ?_
  refine lv_iconst (v := (-1)) hx hb dX0_readRow_11 (by decide) ?_
  refine va_put (D := (dC, dI)) (ci := 0) (v := .int (-1)) (ty := .int) (C := RX0) (T := TX0) (N := 10) hx hb hts hinX0 tyX0 tyX0_ok nmX0 hown hK hP hD hS 0 rfl rfl 9 (by decide) hf_40 (fun _ h9 => h9) rfl (by decide +kernel) rfl rfl (Nat.le_of_ble_eq_true rfl) dX0_readRow_12 (fun H locs hP hD hS => ?_)
  have hP : va_P (dC, dI) vwCl (wR cA r0 r1 r2 r3 r4 r5 r6 row rs tg st ln pa 0 ar 0 (-1)) H := hP
  have hD : va_D A (wR cA r0 r1 r2 r3 r4 r5 r6 row rs tg st ln pa 0 ar 0 (-1)) := hD
  refine lv_aload_n hx hb dX0_readRow_15 rfl (lv_at hl 0 rfl) ?_
  refine cl_Vi (As := []) (rest := []) (wr := []) ⟨hx, hb, hml, hown, hts⟩ (k_X0_readValues l dC dI cA r0 r1 r2 r3 r4 r5 r6 row rs tg st ln pa ar (-1) _ hrow htg hst hln har (by omega)) (cwV 0 hts gX0_readRow_X0_readValues rfl rfl rfl (by decide +kernel) ⟨Nat.le_of_ble_eq_true rfl, Nat.le_of_ble_eq_true rfl⟩) hK hP hD hS hA [0, 1, 2, 3, 4, 5, 6] [] rfl rfl (by decide) (by decide) (by decide) (ci := 0) (q0 := 0) rfl rfl rfl rfl hl.1 rfl (Nat.le_of_ble_eq_true rfl) dX0_readRow_16 ⟨Nat.le_of_ble_eq_true rfl, Nat.le_of_ble_eq_true rfl⟩ (fun r_1 u_1 H locs hw_1 hP hD hS => ?_)
  obtain ⟨of2_1, nd2_1, lv2_1, tg2_1, st2_1, ln2_1, ar2_1, pa2_1, pl2_1⟩ := u_1
  have hP : va_P (dC, dI) vwCl (wR cA r0 r1 r2 r3 r4 r5 r6 row rs tg2_1 st2_1 ln2_1 pa2_1 nd2_1 ar2_1 lv2_1 of2_1) H := hP
  have hD : va_D A (wR cA r0 r1 r2 r3 r4 r5 r6 row rs tg2_1 st2_1 ln2_1 pa2_1 nd2_1 ar2_1 lv2_1 of2_1) := hD
  have hw_1 : ((runS row rs 65 (0, 0, 0, tg, st, ln, ar, pa) = .inr (pl2_1, nd2_1, lv2_1, tg2_1, st2_1, ln2_1, ar2_1, pa2_1) ∧ r_1 = nI 0 ∧ of2_1 = (-1) ∧ PInv rs pl2_1 nd2_1 lv2_1 tg2_1 st2_1 ln2_1 ar2_1 ∧ 0 < nd2_1) ∨ (runS row rs 65 (0, 0, 0, tg, st, ln, ar, pa) = .inl (r_1, of2_1) ∧ r_1 ≠ 0)) ∧ (∀ j, tg2_1 j < 256) ∧ (∀ j, st2_1 j < 1000) ∧ (∀ j, ln2_1 j < 65536) ∧ (∀ j, ar2_1 j < 64) ∧ nd2_1 ≤ 64 ∧ lv2_1 ≤ 16 := hw_1
  obtain ⟨hw_1, hb1, hb2, hb3, hb4, hb5, hb6⟩ := hw_1
  rcases hw_1 with ⟨hrun_1, e1_1, e2_1, hI_1, hpos_1⟩ | ⟨hrun_1, hne_1⟩
  · have e1_1 := e1_1.symm
    subst e1_1
    have e2_1 := e2_1.symm
    subst e2_1
    refine lv_istore_n (lv' := [(1, .int (nI 0)), (0, .ref r0)]) hx hb dX0_readRow_19 rfl hl (by decide) rfl (fun ls hl => ?_)
    refine lv_iload_n hx hb dX0_readRow_20 rfl (lv_at hl 0 rfl) ?_
    refine hl_if_eq (tgt := 29) hx hb dX0_readRow_21 (by decide) (by omega) (fun c_2 => ?_) (fun c_2 => absurd c_2 (by decide))
    refine lv_iload_n hx hb dX0_readRow_29 rfl (lv_at hl 0 rfl) ?_
    have hP9 : va_P (dC, dI) vwCl (vX0_readRow cA r0 r1 r2 r3 r4 r5 r6 row rs tg st ln pa nd ar lv of ((-1), nd2_1, lv2_1, tg2_1, st2_1, ln2_1, ar2_1, pa2_1, pl2_1)) _ := hP
    have hD9 : va_D A (vX0_readRow cA r0 r1 r2 r3 r4 r5 r6 row rs tg st ln pa nd ar lv of ((-1), nd2_1, lv2_1, tg2_1, st2_1, ln2_1, ar2_1, pa2_1, pl2_1)) := hD
    have hq9 : pX0_readRow r0 r1 r2 r3 r4 r5 r6 row rs tg st ln pa nd ar lv of (nI 0) ((-1), nd2_1, lv2_1, tg2_1, st2_1, ln2_1, ar2_1, pa2_1, pl2_1) := ⟨Or.inl ⟨hrun_1, rfl, rfl, hI_1, hpos_1⟩, hb1, hb2, hb3, hb4, hb5, hb6⟩
    exact W.iret (v := nI 0) hx hb hr (fun t ht hW => ⟨⟨nI 0, ((-1), nd2_1, lv2_1, tg2_1, st2_1, ln2_1, ar2_1, pa2_1, pl2_1), rfl, hq9, by rw [ht]; exact hP9, va_K.moved hW.alike hK, hD9⟩, hS.F ht⟩) hS.2.2 dX0_readRow_30
  · refine lv_istore_n (lv' := [(1, .int r_1), (0, .ref r0)]) hx hb dX0_readRow_19 rfl hl (by decide) rfl (fun ls hl => ?_)
    refine lv_iload_n hx hb dX0_readRow_20 rfl (lv_at hl 0 rfl) ?_
    refine lv_if_eq (tgt := 29) hx hb dX0_readRow_21 (by decide) (fun c_3 => absurd c_3 hne_1) (fun c_3 => ?_)
    refine lv_aload_n hx hb dX0_readRow_24 rfl (lv_at hl 1 rfl) ?_
    refine lv_iconst (v := nI 0) hx hb dX0_readRow_25 (by decide) ?_
    refine va_put (D := (dC, dI)) (ci := 0) (v := .int (nI 0)) (ty := .int) (C := RX0) (T := TX0) (N := 10) hx hb hts hinX0 tyX0 tyX0_ok nmX0 hown hK hP hD hS 0 rfl rfl 6 (by decide) hf_31 (fun _ h9 => h9) rfl (by decide +kernel) rfl rfl (Nat.le_of_ble_eq_true rfl) dX0_readRow_26 (fun H locs hP hD hS => ?_)
    have hP : va_P (dC, dI) vwCl (wR cA r0 r1 r2 r3 r4 r5 r6 row rs tg2_1 st2_1 ln2_1 pa2_1 0 ar2_1 lv2_1 of2_1) H := hP
    have hD : va_D A (wR cA r0 r1 r2 r3 r4 r5 r6 row rs tg2_1 st2_1 ln2_1 pa2_1 0 ar2_1 lv2_1 of2_1) := hD
    refine lv_iload_n hx hb dX0_readRow_29 rfl (lv_at hl 0 rfl) ?_
    have hP9 : va_P (dC, dI) vwCl (vX0_readRow cA r0 r1 r2 r3 r4 r5 r6 row rs tg st ln pa nd ar lv of (of2_1, 0, lv2_1, tg2_1, st2_1, ln2_1, ar2_1, pa2_1, pl2_1)) _ := hP
    have hD9 : va_D A (vX0_readRow cA r0 r1 r2 r3 r4 r5 r6 row rs tg st ln pa nd ar lv of (of2_1, 0, lv2_1, tg2_1, st2_1, ln2_1, ar2_1, pa2_1, pl2_1)) := hD
    have hq9 : pX0_readRow r0 r1 r2 r3 r4 r5 r6 row rs tg st ln pa nd ar lv of (r_1) (of2_1, 0, lv2_1, tg2_1, st2_1, ln2_1, ar2_1, pa2_1, pl2_1) := ⟨Or.inr ⟨hrun_1, hne_1, rfl⟩, hb1, hb2, hb3, hb4, by omega, hb6⟩
    exact W.iret (v := r_1) hx hb hr (fun t ht hW => ⟨⟨r_1, (of2_1, 0, lv2_1, tg2_1, st2_1, ln2_1, ar2_1, pa2_1, pl2_1), rfl, hq9, by rw [ht]; exact hP9, va_K.moved hW.alike hK, hD9⟩, hS.F ht⟩) hS.2.2 dX0_readRow_30
