abbrev pX0_readValue (r0 : Nat) (r1 : Nat) (r2 : Nat) (r3 : Nat) (r4 : Nat) (r5 : Nat) (r6 : Nat) (row : Nat → Nat) (rs : Nat) (tg : Nat → Nat) (st : Nat → Nat) (ln : Nat → Nat) (pa : Nat → Int32) (nd : Nat) (ar : Nat → Nat) (lv : Nat) (of : Int32) (pl : Nat) : Int32 → Int32 × Nat × (Nat → Nat) × (Nat → Nat) × (Nat → Nat) × (Nat → Int32) × Nat × Nat → Prop := fun (r : Int32) (u : Int32 × Nat × (Nat → Nat) × (Nat → Nat) × (Nat → Nat) × (Nat → Int32) × Nat × Nat) => match u with | (of2, nd2, tg2, st2, ln2, pa2, xn, xa) => ((valS row rs nd lv ar st ln pl = .inr (xn, xa) ∧ r = nI 0 ∧ of2 = of ∧ nd2 = nd + 1 ∧ tg2 = va_up tg nd (row pl) ∧ st2 = va_up st nd xa ∧ ln2 = va_up ln nd xn ∧ pa2 = upd pa nd (parI lv ar)) ∨ (valS row rs nd lv ar st ln pl = .inl (r, of2) ∧ r ≠ 0 ∧ nd2 = nd)) ∧ (∀ j, tg2 j < 256) ∧ (∀ j, st2 j < 1000) ∧ (∀ j, ln2 j < 65536)
abbrev vX0_readValue (cA : ClassId) (r0 : Nat) (r1 : Nat) (r2 : Nat) (r3 : Nat) (r4 : Nat) (r5 : Nat) (r6 : Nat) (row : Nat → Nat) (rs : Nat) (tg : Nat → Nat) (st : Nat → Nat) (ln : Nat → Nat) (pa : Nat → Int32) (nd : Nat) (ar : Nat → Nat) (lv : Nat) (of : Int32) (pl : Nat) : Int32 × Nat × (Nat → Nat) × (Nat → Nat) × (Nat → Nat) × (Nat → Int32) × Nat × Nat → va_W := fun (u : Int32 × Nat × (Nat → Nat) × (Nat → Nat) × (Nat → Nat) × (Nat → Int32) × Nat × Nat) => match u with | (of2, nd2, tg2, st2, ln2, pa2, xn, xa) => wR cA r0 r1 r2 r3 r4 r5 r6 row rs tg2 st2 ln2 pa2 nd2 ar lv of2
abbrev qX0_readValue (dC : Nat → ClassId) (dI : Nat → Nat → Nat) (cA : ClassId) (A : Nat → Prop) (r0 : Nat) (r1 : Nat) (r2 : Nat) (r3 : Nat) (r4 : Nat) (r5 : Nat) (r6 : Nat) (row : Nat → Nat) (rs : Nat) (tg : Nat → Nat) (st : Nat → Nat) (ln : Nat → Nat) (pa : Nat → Int32) (nd : Nat) (ar : Nat → Nat) (lv : Nat) (of : Int32) (pl : Nat) : Array Value → State → Outcome → State → Prop := va_Qi (pX0_readValue r0 r1 r2 r3 r4 r5 r6 row rs tg st ln pa nd ar lv of pl) (fun u => cAft dC dI cA A (vX0_readValue cA r0 r1 r2 r3 r4 r5 r6 row rs tg st ln pa nd ar lv of pl u)) A
set_option maxHeartbeats 4000000 in
set_option maxRecDepth 100000 in
theorem k_X0_readValue (l : Launch) (dC : Nat → ClassId) (dI : Nat → Nat → Nat) (cA : ClassId) (r0 : Nat) (r1 : Nat) (r2 : Nat) (r3 : Nat) (r4 : Nat) (r5 : Nat) (r6 : Nat) (row : Nat → Nat) (rs : Nat) (tg : Nat → Nat) (st : Nat → Nat) (ln : Nat → Nat) (pa : Nat → Int32) (nd : Nat) (ar : Nat → Nat) (lv : Nat) (of : Int32) (pl : Nat) (sz : Nat) (hrow : ∀ j, row j < 256) (htg : ∀ j, tg j < 256) (hst : ∀ j, st j < 1000) (hln : ∀ j, ln j < 65536) (har : ∀ j, ar j < 64) (hrs : rs ≤ 300) (hnd : nd ≤ 64) (hlv : lv ≤ 16) (hpl : pl ≤ 300) (hlim : limN rs lv ar st ln ≤ 300) (harn : ∀ j, j < lv → ar j < nd) : Met l yX0_readValue wsX0_readValue ({ frames := 3, cells := 0, slots := 0, locals := 70 } : Room) (va_Pc [.ref r0, .int (nI pl)] (cPre dC dI cA (wR cA r0 r1 r2 r3 r4 r5 r6 row rs tg st ln pa nd ar lv of) sz)) (qX0_readValue dC dI cA (va_A (wR cA r0 r1 r2 r3 r4 r5 r6 row rs tg st ln pa nd ar lv of) sz) r0 r1 r2 r3 r4 r5 r6 row rs tg st ln pa nd ar lv of pl) 0 0 (va_A (wR cA r0 r1 r2 r3 r4 r5 r6 row rs tg st ln pa nd ar lv of) sz) := by
  refine Met.ofW (cc := cX0_readValue) (maxL := 3) (ret := (some .int)) (by decide) rfl ?_
  intro p e s m args below meth c s₁ B hml hv
  obtain ⟨rfl, hsz, hP, hK, hD0⟩ := hv
  have hx := B.exec
  have hb := B.bytes
  have hr := B.returns
  have hts := atoms_spec (ws := wsX0_readValue) B.pre
  have hown : s.vm.findClass RX0 = some m.cls := findClass_of_methodNamed B.named
  have hlocks := B.notSynchronized
  subst hsz
  have hD := hD0.self (sz := s.heap.size)
  generalize hAe : va_A (wR cA r0 r1 r2 r3 r4 r5 r6 row rs tg st ln pa nd ar lv of) s.heap.size = A at hD ⊢
  have hA : ∀ q : Nat, s.heap.size ≤ q → A q := fun q h => by rw [← hAe]; exact Or.inr h
  have hS : va_S A s.heap s.heap [] := va_S.rf
  have hl := lv_entry ([.ref r0, .int (nI pl)]) (n := 3) (Nat.le_of_ble_eq_true rfl)
  rw [lg_entry_eq]
  generalize (lg_sl ([.ref r0, .int (nI pl)]) ++ List.replicate (3 - (lg_sl ([.ref r0, .int (nI pl)])).length) Slot.unset).toArray = ls at hl ⊢
  have hl : lv_has ls 3 [(0, .ref r0), (1, .int (nI pl))] := hl
  have hinX0 : ∀ w ∈ wsX00, w ∈ wsX0_readValue := fun _ h => List.mem_cons_of_mem _ (List.mem_append_right _ h)
  have hf_31 := hts (.fieldLink RX0 31 "DerDesk$Reader" "nodes" "I") (by decide +kernel)
  have hP : va_P (dC, dI) vwCl (wR cA r0 r1 r2 r3 r4 r5 r6 row rs tg st ln pa nd ar lv of) s.heap := hP
  refine lv_aload_n hx hb dX0_readValue_0 rfl (lv_at hl 0 rfl) ?_
  refine lv_iload_n hx hb dX0_readValue_1 rfl (lv_at hl 1 rfl) ?_
  refine cl_Vi (As := [.int (nI pl)]) (rest := []) (wr := []) ⟨hx, hb, hml, hown, hts⟩ (k_X0_readIdentifier l dC dI cA r0 r1 r2 r3 r4 r5 r6 row rs tg st ln pa nd ar lv of pl _ hrow htg hst hln har (by omega) (by omega) (by omega) (by omega)) (cwV 1 hts gX0_readValue_X0_readIdentifier rfl rfl rfl (by decide +kernel) ⟨Nat.le_of_ble_eq_true rfl, Nat.le_of_ble_eq_true rfl⟩) hK hP hD hS hA [0, 1, 2, 3, 4, 5, 6] [] rfl rfl (by decide) (by decide) (by decide) (ci := 0) (q0 := 0) rfl rfl rfl rfl hl.1 rfl (Nat.le_of_ble_eq_true rfl) dX0_readValue_2 ⟨Nat.le_of_ble_eq_true rfl, Nat.le_of_ble_eq_true rfl⟩ (fun r_1 u_1 H locs hw_1 hP hD hS => ?_)
  obtain ⟨of2_1, tg2_1, pa2_1⟩ := u_1
  have hP : va_P (dC, dI) vwCl (wR cA r0 r1 r2 r3 r4 r5 r6 row rs tg2_1 st ln pa2_1 nd ar lv of2_1) H := hP
  have hD : va_D A (wR cA r0 r1 r2 r3 r4 r5 r6 row rs tg2_1 st ln pa2_1 nd ar lv of2_1) := hD
  have hw_1 : (idS row rs nd lv pl = none ∧ r_1 = nI 0 ∧ of2_1 = of ∧ tg2_1 = va_up tg nd (row pl) ∧ pa2_1 = upd pa nd (parI lv ar)) ∨ (idS row rs nd lv pl = some (r_1, of2_1) ∧ r_1 ≠ 0 ∧ tg2_1 = tg ∧ pa2_1 = pa) := hw_1
  rcases hw_1 with ⟨hid_1, e1_1, e2_1, e3_1, e4_1⟩ | ⟨her_1, hne_1, e2_1, e3_1⟩
  · have e1_1 := e1_1.symm
    subst e1_1
    have e2_1 := e2_1.symm
    subst e2_1
    have e3_1 := e3_1.symm
    subst e3_1
    have e4_1 := e4_1.symm
    subst e4_1
    refine lv_istore_n (lv' := [(2, .int (nI 0)), (0, .ref r0), (1, .int (nI pl))]) hx hb dX0_readValue_5 rfl hl (by decide) rfl (fun ls hl => ?_)
    refine lv_iload_n hx hb dX0_readValue_6 rfl (lv_at hl 0 rfl) ?_
    refine hl_if_ne (tgt := 16) hx hb dX0_readValue_7 (by decide) (by omega) (fun c_2 => absurd c_2 (by decide)) (fun c_2 => ?_)
    refine lv_aload_n hx hb dX0_readValue_10 rfl (lv_at hl 1 rfl) ?_
    refine lv_iload_n hx hb dX0_readValue_11 rfl (lv_at hl 2 rfl) ?_
    refine cl_Vi (As := [.int (nI pl)]) (rest := []) (wr := []) ⟨hx, hb, hml, hown, hts⟩ (k_X0_readLength l dC dI cA r0 r1 r2 r3 r4 r5 r6 row rs (va_up tg nd (row pl)) st ln (upd pa nd (parI lv ar)) nd ar lv of pl _ hrow (up_lt htg (hrow pl)) hst hln har (idS_none hid_1).2.2.1 (by omega) (by omega) (by omega)) (cwV 1 hts gX0_readValue_X0_readLength rfl rfl rfl (by decide +kernel) ⟨Nat.le_of_ble_eq_true rfl, Nat.le_of_ble_eq_true rfl⟩) hK hP hD hS hA [0, 1, 2, 3, 4, 5, 6] [] rfl rfl (by decide) (by decide) (by decide) (ci := 0) (q0 := 0) rfl rfl rfl rfl hl.1 rfl (Nat.le_of_ble_eq_true rfl) dX0_readValue_12 ⟨Nat.le_of_ble_eq_true rfl, Nat.le_of_ble_eq_true rfl⟩ (fun r_3 u_3 H locs hw_3 hP hD hS => ?_)
    obtain ⟨of2_3, st2_3, ln2_3, xn_3, xa_3⟩ := u_3
    have hP : va_P (dC, dI) vwCl (wR cA r0 r1 r2 r3 r4 r5 r6 row rs (va_up tg nd (row pl)) st2_3 ln2_3 (upd pa nd (parI lv ar)) nd ar lv of2_3) H := hP
    have hD : va_D A (wR cA r0 r1 r2 r3 r4 r5 r6 row rs (va_up tg nd (row pl)) st2_3 ln2_3 (upd pa nd (parI lv ar)) nd ar lv of2_3) := hD
    have hw_3 : (lenS row (limN rs lv ar st ln) lv rs pl = .inr (xn_3, xa_3) ∧ r_3 = nI 0 ∧ of2_3 = of ∧ st2_3 = va_up st nd xa_3 ∧ ln2_3 = va_up ln nd xn_3) ∨ (lenS row (limN rs lv ar st ln) lv rs pl = .inl (r_3, of2_3) ∧ r_3 ≠ 0 ∧ st2_3 = st ∧ ln2_3 = ln) := hw_3
    rcases hw_3 with ⟨hle_3, e1_3, e2_3, e3_3, e4_3⟩ | ⟨her_3, hne_3, e2_3, e3_3⟩
    · have e1_3 := e1_3.symm
      subst e1_3
      have e2_3 := e2_3.symm
      subst e2_3
      have e3_3 := e3_3.symm
      subst e3_3
      have e4_3 := e4_3.symm
      subst e4_3
      have hlo_3 := lenS_ok hrow hle_3
      have hst_3 := up_lt hst (k := nd) (x := xa_3) (by have := hlo_3.2.1; dsimp only at this; omega)
      have hln_3 := up_lt hln (k := nd) (x := xn_3) hlo_3.2.2
      have hLE_3 : limN rs lv ar (va_up st nd xa_3) (va_up ln nd xn_3) = limN rs lv ar st ln := limN_up harn _ _
      refine lv_istore_n (lv' := [(2, .int (nI 0)), (0, .ref r0), (1, .int (nI pl))]) hx hb dX0_readValue_15 rfl hl (by decide) rfl (fun ls hl => ?_)
      refine lv_iload_n hx hb dX0_readValue_16 rfl (lv_at hl 0 rfl) ?_
      refine hl_if_ne (tgt := 26) hx hb dX0_readValue_17 (by decide) (by omega) (fun c_4 => absurd c_4 (by decide)) (fun c_4 => ?_)
      refine lv_aload_n hx hb dX0_readValue_20 rfl (lv_at hl 1 rfl) ?_
      refine lv_iload_n hx hb dX0_readValue_21 rfl (lv_at hl 2 rfl) ?_
      refine cl_Vi (As := [.int (nI pl)]) (rest := []) (wr := []) ⟨hx, hb, hml, hown, hts⟩ (k_X0_checkContents l dC dI cA r0 r1 r2 r3 r4 r5 r6 row rs (va_up tg nd (row pl)) (va_up st nd xa_3) (va_up ln nd xn_3) (upd pa nd (parI lv ar)) nd ar lv of pl _ hrow (up_lt htg (hrow pl)) hst_3 hln_3 har (idS_none hid_1).2.2.1 (by omega) (by omega) (by rw [hLE_3]; exact hlim) (by rw [hLE_3, up_eq]; exact hlo_3.2.1)) (cwV 1 hts gX0_readValue_X0_checkContents rfl rfl rfl (by decide +kernel) ⟨Nat.le_of_ble_eq_true rfl, Nat.le_of_ble_eq_true rfl⟩) hK hP hD hS hA [0, 1, 2, 3, 4, 5, 6] [] rfl rfl (by decide) (by decide) (by decide) (ci := 0) (q0 := 0) rfl rfl rfl rfl hl.1 rfl (Nat.le_of_ble_eq_true rfl) dX0_readValue_22 ⟨Nat.le_of_ble_eq_true rfl, Nat.le_of_ble_eq_true rfl⟩ (fun r_5 u_5 H locs hw_5 hP hD hS => ?_)
      obtain ⟨of2_5, eu_5⟩ : ∃ z, z = u_5 := ⟨_, rfl⟩
      subst eu_5
      have hP : va_P (dC, dI) vwCl (wR cA r0 r1 r2 r3 r4 r5 r6 row rs (va_up tg nd (row pl)) (va_up st nd xa_3) (va_up ln nd xn_3) (upd pa nd (parI lv ar)) nd ar lv of2_5) H := hP
      have hD : va_D A (wR cA r0 r1 r2 r3 r4 r5 r6 row rs (va_up tg nd (row pl)) (va_up st nd xa_3) (va_up ln nd xn_3) (upd pa nd (parI lv ar)) nd ar lv of2_5) := hD
      have hw_5 : (conS ((va_up tg nd (row pl)) nd) row ((va_up st nd xa_3) nd) ((va_up ln nd xn_3) nd) (limN rs lv ar (va_up st nd xa_3) (va_up ln nd xn_3)) pl = none ∧ r_5 = nI 0 ∧ of2_5 = of) ∨ (conS ((va_up tg nd (row pl)) nd) row ((va_up st nd xa_3) nd) ((va_up ln nd xn_3) nd) (limN rs lv ar (va_up st nd xa_3) (va_up ln nd xn_3)) pl = some (r_5, of2_5) ∧ r_5 ≠ 0) := hw_5
      simp only [up_eq, hLE_3] at hw_5
      rcases hw_5 with ⟨hco_5, e1_5, e2_5⟩ | ⟨her_5, hne_5⟩
      · have e1_5 := e1_5.symm
        subst e1_5
        have e2_5 := e2_5.symm
        subst e2_5
        refine lv_istore_n (lv' := [(2, .int (nI 0)), (0, .ref r0), (1, .int (nI pl))]) hx hb dX0_readValue_25 rfl hl (by decide) rfl (fun ls hl => ?_)
        refine lv_iload_n hx hb dX0_readValue_26 rfl (lv_at hl 0 rfl) ?_
        refine hl_if_ne (tgt := 40) hx hb dX0_readValue_27 (by decide) (by omega) (fun c_6 => absurd c_6 (by decide)) (fun c_6 => ?_)
        refine lv_aload_n hx hb dX0_readValue_30 rfl (lv_at hl 1 rfl) ?_
        refine lv_dup hx hb dX0_readValue_31 rfl ?_
        refine va_get (D := (dC, dI)) (ci := 0) (v := .int (nI nd)) (C := RX0) (T := TX0) (N := 10) hx hb hts hinX0 hown hK hP 0 rfl rfl 6 (by decide) hf_31 (fun _ h9 => h9) rfl dX0_readValue_32 ?_
        refine lv_iconst (v := nI 1) hx hb dX0_readValue_35 (by decide) ?_
        refine hl_iadd hx hb dX0_readValue_36 ?_
        refine va_put (D := (dC, dI)) (ci := 0) (v := .int (nI (nd + 1))) (ty := .int) (C := RX0) (T := TX0) (N := 10) hx hb hts hinX0 tyX0 tyX0_ok nmX0 hown hK hP hD hS 0 rfl rfl 6 (by decide) hf_31 (fun _ h9 => h9) rfl (by decide +kernel) rfl rfl (Nat.le_of_ble_eq_true rfl) dX0_readValue_37 (fun H locs hP hD hS => ?_)
        have hP : va_P (dC, dI) vwCl (wR cA r0 r1 r2 r3 r4 r5 r6 row rs (va_up tg nd (row pl)) (va_up st nd xa_3) (va_up ln nd xn_3) (upd pa nd (parI lv ar)) (nd + 1) ar lv of) H := hP
        have hD : va_D A (wR cA r0 r1 r2 r3 r4 r5 r6 row rs (va_up tg nd (row pl)) (va_up st nd xa_3) (va_up ln nd xn_3) (upd pa nd (parI lv ar)) (nd + 1) ar lv of) := hD
        refine lv_iload_n hx hb dX0_readValue_40 rfl (lv_at hl 0 rfl) ?_
        have hP9 : va_P (dC, dI) vwCl (vX0_readValue cA r0 r1 r2 r3 r4 r5 r6 row rs tg st ln pa nd ar lv of pl (of, nd + 1, va_up tg nd (row pl), va_up st nd xa_3, va_up ln nd xn_3, upd pa nd (parI lv ar), xn_3, xa_3)) _ := hP
        have hD9 : va_D A (vX0_readValue cA r0 r1 r2 r3 r4 r5 r6 row rs tg st ln pa nd ar lv of pl (of, nd + 1, va_up tg nd (row pl), va_up st nd xa_3, va_up ln nd xn_3, upd pa nd (parI lv ar), xn_3, xa_3)) := hD
        have hq9 : pX0_readValue r0 r1 r2 r3 r4 r5 r6 row rs tg st ln pa nd ar lv of pl (nI 0) (of, nd + 1, va_up tg nd (row pl), va_up st nd xa_3, va_up ln nd xn_3, upd pa nd (parI lv ar), xn_3, xa_3) := ⟨Or.inl ⟨by unfold valS; rw [hid_1]; dsimp only; rw [hle_3]; dsimp only; rw [hco_5], rfl, rfl, rfl, rfl, rfl, rfl, rfl⟩, (up_lt htg (hrow pl)), hst_3, hln_3⟩
        exact W.iret (v := nI 0) hx hb hr (fun t ht hW => ⟨⟨nI 0, (of, nd + 1, va_up tg nd (row pl), va_up st nd xa_3, va_up ln nd xn_3, upd pa nd (parI lv ar), xn_3, xa_3), rfl, hq9, by rw [ht]; exact hP9, va_K.moved hW.alike hK, hD9⟩, hS.F ht⟩) hS.2.2 dX0_readValue_41
      · refine lv_istore_n (lv' := [(2, .int r_5), (0, .ref r0), (1, .int (nI pl))]) hx hb dX0_readValue_25 rfl hl (by decide) rfl (fun ls hl => ?_)
        refine lv_iload_n hx hb dX0_readValue_26 rfl (lv_at hl 0 rfl) ?_
        refine lv_if_ne (tgt := 40) hx hb dX0_readValue_27 (by decide) (fun c_7 => ?_) (fun c_7 => absurd c_7 hne_5)
        refine lv_iload_n hx hb dX0_readValue_40 rfl (lv_at hl 0 rfl) ?_
        have hP9 : va_P (dC, dI) vwCl (vX0_readValue cA r0 r1 r2 r3 r4 r5 r6 row rs tg st ln pa nd ar lv of pl (of2_5, nd, va_up tg nd (row pl), va_up st nd xa_3, va_up ln nd xn_3, upd pa nd (parI lv ar), 0, 0)) _ := hP
        have hD9 : va_D A (vX0_readValue cA r0 r1 r2 r3 r4 r5 r6 row rs tg st ln pa nd ar lv of pl (of2_5, nd, va_up tg nd (row pl), va_up st nd xa_3, va_up ln nd xn_3, upd pa nd (parI lv ar), 0, 0)) := hD
        have hq9 : pX0_readValue r0 r1 r2 r3 r4 r5 r6 row rs tg st ln pa nd ar lv of pl (r_5) (of2_5, nd, va_up tg nd (row pl), va_up st nd xa_3, va_up ln nd xn_3, upd pa nd (parI lv ar), 0, 0) := ⟨Or.inr ⟨by unfold valS; rw [hid_1]; dsimp only; rw [hle_3]; dsimp only; rw [her_5], hne_5, rfl⟩, (up_lt htg (hrow pl)), hst_3, hln_3⟩
        exact W.iret (v := r_5) hx hb hr (fun t ht hW => ⟨⟨r_5, (of2_5, nd, va_up tg nd (row pl), va_up st nd xa_3, va_up ln nd xn_3, upd pa nd (parI lv ar), 0, 0), rfl, hq9, by rw [ht]; exact hP9, va_K.moved hW.alike hK, hD9⟩, hS.F ht⟩) hS.2.2 dX0_readValue_41
    · have e2_3 := e2_3.symm
      subst e2_3
      have e3_3 := e3_3.symm
      subst e3_3
      refine lv_istore_n (lv' := [(2, .int r_3), (0, .ref r0), (1, .int (nI pl))]) hx hb dX0_readValue_15 rfl hl (by decide) rfl (fun ls hl => ?_)
      refine lv_iload_n hx hb dX0_readValue_16 rfl (lv_at hl 0 rfl) ?_
      refine lv_if_ne (tgt := 26) hx hb dX0_readValue_17 (by decide) (fun c_8 => ?_) (fun c_8 => absurd c_8 hne_3)
      refine lv_iload_n hx hb dX0_readValue_26 rfl (lv_at hl 0 rfl) ?_
      refine lv_if_ne (tgt := 40) hx hb dX0_readValue_27 (by decide) (fun c_9 => ?_) (fun c_9 => absurd c_9 hne_3)
      refine lv_iload_n hx hb dX0_readValue_40 rfl (lv_at hl 0 rfl) ?_
      have hP9 : va_P (dC, dI) vwCl (vX0_readValue cA r0 r1 r2 r3 r4 r5 r6 row rs tg st ln pa nd ar lv of pl (of2_3, nd, va_up tg nd (row pl), st, ln, upd pa nd (parI lv ar), 0, 0)) _ := hP
      have hD9 : va_D A (vX0_readValue cA r0 r1 r2 r3 r4 r5 r6 row rs tg st ln pa nd ar lv of pl (of2_3, nd, va_up tg nd (row pl), st, ln, upd pa nd (parI lv ar), 0, 0)) := hD
      have hq9 : pX0_readValue r0 r1 r2 r3 r4 r5 r6 row rs tg st ln pa nd ar lv of pl (r_3) (of2_3, nd, va_up tg nd (row pl), st, ln, upd pa nd (parI lv ar), 0, 0) := ⟨Or.inr ⟨by unfold valS; rw [hid_1]; dsimp only; rw [her_3], hne_3, rfl⟩, (up_lt htg (hrow pl)), hst, hln⟩
      exact W.iret (v := r_3) hx hb hr (fun t ht hW => ⟨⟨r_3, (of2_3, nd, va_up tg nd (row pl), st, ln, upd pa nd (parI lv ar), 0, 0), rfl, hq9, by rw [ht]; exact hP9, va_K.moved hW.alike hK, hD9⟩, hS.F ht⟩) hS.2.2 dX0_readValue_41
  · have e2_1 := e2_1.symm
    subst e2_1
    have e3_1 := e3_1.symm
    subst e3_1
    refine lv_istore_n (lv' := [(2, .int r_1), (0, .ref r0), (1, .int (nI pl))]) hx hb dX0_readValue_5 rfl hl (by decide) rfl (fun ls hl => ?_)
    refine lv_iload_n hx hb dX0_readValue_6 rfl (lv_at hl 0 rfl) ?_
    refine lv_if_ne (tgt := 16) hx hb dX0_readValue_7 (by decide) (fun c_10 => ?_) (fun c_10 => absurd c_10 hne_1)
    refine lv_iload_n hx hb dX0_readValue_16 rfl (lv_at hl 0 rfl) ?_
    refine lv_if_ne (tgt := 26) hx hb dX0_readValue_17 (by decide) (fun c_11 => ?_) (fun c_11 => absurd c_11 hne_1)
    refine lv_iload_n hx hb dX0_readValue_26 rfl (lv_at hl 0 rfl) ?_
    refine lv_if_ne (tgt := 40) hx hb dX0_readValue_27 (by decide) (fun c_12 => ?_) (fun c_12 => absurd c_12 hne_1)
    refine lv_iload_n hx hb dX0_readValue_40 rfl (lv_at hl 0 rfl) ?_
    have hP9 : va_P (dC, dI) vwCl (vX0_readValue cA r0 r1 r2 r3 r4 r5 r6 row rs tg st ln pa nd ar lv of pl (of2_1, nd, tg, st, ln, pa, 0, 0)) _ := hP
    have hD9 : va_D A (vX0_readValue cA r0 r1 r2 r3 r4 r5 r6 row rs tg st ln pa nd ar lv of pl (of2_1, nd, tg, st, ln, pa, 0, 0)) := hD
    have hq9 : pX0_readValue r0 r1 r2 r3 r4 r5 r6 row rs tg st ln pa nd ar lv of pl (r_1) (of2_1, nd, tg, st, ln, pa, 0, 0) := ⟨Or.inr ⟨by unfold valS; rw [her_1], hne_1, rfl⟩, htg, hst, hln⟩
    exact W.iret (v := r_1) hx hb hr (fun t ht hW => ⟨⟨r_1, (of2_1, nd, tg, st, ln, pa, 0, 0), rfl, hq9, by rw [ht]; exact hP9, va_K.moved hW.alike hK, hD9⟩, hS.F ht⟩) hS.2.2 dX0_readValue_41
abbrev pX0_goOnFrom (r0 : Nat) (r1 : Nat) (r2 : Nat) (r3 : Nat) (r4 : Nat) (r5 : Nat) (r6 : Nat) (row : Nat → Nat) (rs : Nat) (tg : Nat → Nat) (st : Nat → Nat) (ln : Nat → Nat) (pa : Nat → Int32) (nd : Nat) (ar : Nat → Nat) (lv : Nat) (of : Int32) (nod : Nat) : Int32 → (Nat → Nat) × Nat → Prop := fun (r : Int32) (u : (Nat → Nat) × Nat) => match u with | (ar2, lv2) => (tg nod = 48 ∧ r = nI (st nod) ∧ ar2 = va_up ar lv nod ∧ lv2 = lv + 1) ∨ (¬ tg nod = 48 ∧ r = nI (st nod + ln nod) ∧ ar2 = ar ∧ lv2 = lv)
abbrev vX0_goOnFrom (cA : ClassId) (r0 : Nat) (r1 : Nat) (r2 : Nat) (r3 : Nat) (r4 : Nat) (r5 : Nat) (r6 : Nat) (row : Nat → Nat) (rs : Nat) (tg : Nat → Nat) (st : Nat → Nat) (ln : Nat → Nat) (pa : Nat → Int32) (nd : Nat) (ar : Nat → Nat) (lv : Nat) (of : Int32) (nod : Nat) : (Nat → Nat) × Nat → va_W := fun (u : (Nat → Nat) × Nat) => match u with | (ar2, lv2) => wR cA r0 r1 r2 r3 r4 r5 r6 row rs tg st ln pa nd ar2 lv2 of
abbrev qX0_goOnFrom (dC : Nat → ClassId) (dI : Nat → Nat → Nat) (cA : ClassId) (A : Nat → Prop) (r0 : Nat) (r1 : Nat) (r2 : Nat) (r3 : Nat) (r4 : Nat) (r5 : Nat) (r6 : Nat) (row : Nat → Nat) (rs : Nat) (tg : Nat → Nat) (st : Nat → Nat) (ln : Nat → Nat) (pa : Nat → Int32) (nd : Nat) (ar : Nat → Nat) (lv : Nat) (of : Int32) (nod : Nat) : Array Value → State → Outcome → State → Prop := va_Qi (pX0_goOnFrom r0 r1 r2 r3 r4 r5 r6 row rs tg st ln pa nd ar lv of nod) (fun u => cAft dC dI cA A (vX0_goOnFrom cA r0 r1 r2 r3 r4 r5 r6 row rs tg st ln pa nd ar lv of nod u)) A
set_option maxHeartbeats 4000000 in
set_option maxRecDepth 100000 in
theorem k_X0_goOnFrom (l : Launch) (dC : Nat → ClassId) (dI : Nat → Nat → Nat) (cA : ClassId) (r0 : Nat) (r1 : Nat) (r2 : Nat) (r3 : Nat) (r4 : Nat) (r5 : Nat) (r6 : Nat) (row : Nat → Nat) (rs : Nat) (tg : Nat → Nat) (st : Nat → Nat) (ln : Nat → Nat) (pa : Nat → Int32) (nd : Nat) (ar : Nat → Nat) (lv : Nat) (of : Int32) (nod : Nat) (sz : Nat) (htg : ∀ j, tg j < 256) (hst : ∀ j, st j < 1000) (hn1 : nod < 64) (hlv : lv < 16) : Met l yX0_goOnFrom wsX0_goOnFrom ({ frames := 1, cells := 0, slots := 0, locals := 21 } : Room) (va_Pc [.ref r0, .int (nI nod)] (cPre dC dI cA (wR cA r0 r1 r2 r3 r4 r5 r6 row rs tg st ln pa nd ar lv of) sz)) (qX0_goOnFrom dC dI cA (va_A (wR cA r0 r1 r2 r3 r4 r5 r6 row rs tg st ln pa nd ar lv of) sz) r0 r1 r2 r3 r4 r5 r6 row rs tg st ln pa nd ar lv of nod) 0 0 (va_A (wR cA r0 r1 r2 r3 r4 r5 r6 row rs tg st ln pa nd ar lv of) sz) := by
  refine Met.ofW (cc := cX0_goOnFrom) (maxL := 2) (ret := (some .int)) (by decide) rfl ?_
  intro p e s m args below meth c s₁ B hml hv
  obtain ⟨rfl, hsz, hP, hK, hD0⟩ := hv
  have hx := B.exec
  have hb := B.bytes
  have hr := B.returns
  have hts := atoms_spec (ws := wsX0_goOnFrom) B.pre
  have hown : s.vm.findClass RX0 = some m.cls := findClass_of_methodNamed B.named
  have hlocks := B.notSynchronized
  subst hsz
  have hD := hD0.self (sz := s.heap.size)
  generalize hAe : va_A (wR cA r0 r1 r2 r3 r4 r5 r6 row rs tg st ln pa nd ar lv of) s.heap.size = A at hD ⊢
  have hA : ∀ q : Nat, s.heap.size ≤ q → A q := fun q h => by rw [← hAe]; exact Or.inr h
  have hS : va_S A s.heap s.heap [] := va_S.rf
  have hl := lv_entry ([.ref r0, .int (nI nod)]) (n := 2) (Nat.le_of_ble_eq_true rfl)
  rw [lg_entry_eq]
  generalize (lg_sl ([.ref r0, .int (nI nod)]) ++ List.replicate (2 - (lg_sl ([.ref r0, .int (nI nod)])).length) Slot.unset).toArray = ls at hl ⊢
  have hl : lv_has ls 2 [(0, .ref r0), (1, .int (nI nod))] := hl
  have hinX0 : ∀ w ∈ wsX00, w ∈ wsX0_goOnFrom := fun _ h => List.mem_cons_of_mem _ (List.mem_append_right _ h)
  have hf_19 := hts (.fieldLink RX0 19 "DerDesk$Reader" "tags" "[I") (by decide +kernel)
  have hf_22 := hts (.fieldLink RX0 22 "DerDesk$Reader" "starts" "[I") (by decide +kernel)
  have hf_34 := hts (.fieldLink RX0 34 "DerDesk$Reader" "around" "[I") (by decide +kernel)
  have hf_37 := hts (.fieldLink RX0 37 "DerDesk$Reader" "level" "I") (by decide +kernel)
  have hP : va_P (dC, dI) vwCl (wR cA r0 r1 r2 r3 r4 r5 r6 row rs tg st ln pa nd ar lv of) s.heap := hP
  refine lv_aload_n hx hb dX0_goOnFrom_0 rfl (lv_at hl 0 rfl) ?_
  refine va_get (D := (dC, dI)) (ci := 0) (v := .ref r2) (C := RX0) (T := TX0) (N := 10) hx hb hts hinX0 hown hK hP 0 rfl rfl 2 (by decide) hf_19 (fun _ h9 => h9) rfl dX0_goOnFrom_1 ?_
  refine lv_iload_n hx hb dX0_goOnFrom_4 rfl (lv_at hl 1 rfl) ?_
  refine hl_iald hx hb hK hP 2 0 rfl rfl (by omega) (by decide) dX0_goOnFrom_5 ?_
  have hv_1 := htg nod
  refine lv_bipush (v := nI 48) hx hb dX0_goOnFrom_6 (by decide) ?_
  refine hl_icmp_eq (tgt := 17) hx hb dX0_goOnFrom_8 (by decide) (by omega) (by omega) (fun c_2 => ?_) (fun c_2 => ?_)
  · refine lv_aload_n hx hb dX0_goOnFrom_17 rfl (lv_at hl 0 rfl) ?_
    refine va_get (D := (dC, dI)) (ci := 0) (v := .ref r6) (C := RX0) (T := TX0) (N := 10) hx hb hts hinX0 hown hK hP 0 rfl rfl 7 (by decide) hf_34 (fun _ h9 => h9) rfl dX0_goOnFrom_18 ?_
    refine lv_aload_n hx hb dX0_goOnFrom_21 rfl (lv_at hl 0 rfl) ?_
    refine va_get (D := (dC, dI)) (ci := 0) (v := .int (nI lv)) (C := RX0) (T := TX0) (N := 10) hx hb hts hinX0 hown hK hP 0 rfl rfl 8 (by decide) hf_37 (fun _ h9 => h9) rfl dX0_goOnFrom_22 ?_
    refine lv_iload_n hx hb dX0_goOnFrom_25 rfl (lv_at hl 1 rfl) ?_
    refine hl_iast hx hb hK hP hD hS 6 0 rfl rfl (by omega) (by decide) dX0_goOnFrom_26 (fun H locs hP hD hS => ?_)
    have hP : va_P (dC, dI) vwCl (wR cA r0 r1 r2 r3 r4 r5 r6 row rs tg st ln pa nd (va_up ar lv nod) lv of) H := hP
    have hD : va_D A (wR cA r0 r1 r2 r3 r4 r5 r6 row rs tg st ln pa nd (va_up ar lv nod) lv of) := hD
    refine lv_aload_n hx hb dX0_goOnFrom_27 rfl (lv_at hl 0 rfl) ?_
    refine lv_dup hx hb dX0_goOnFrom_28 rfl ?_
    refine va_get (D := (dC, dI)) (ci := 0) (v := .int (nI lv)) (C := RX0) (T := TX0) (N := 10) hx hb hts hinX0 hown hK hP 0 rfl rfl 8 (by decide) hf_37 (fun _ h9 => h9) rfl dX0_goOnFrom_29 ?_
    refine lv_iconst (v := nI 1) hx hb dX0_goOnFrom_32 (by decide) ?_
    refine hl_iadd hx hb dX0_goOnFrom_33 ?_
    refine va_put (D := (dC, dI)) (ci := 0) (v := .int (nI (lv + 1))) (ty := .int) (C := RX0) (T := TX0) (N := 10) hx hb hts hinX0 tyX0 tyX0_ok nmX0 hown hK hP hD hS 0 rfl rfl 8 (by decide) hf_37 (fun _ h9 => h9) rfl (by decide +kernel) rfl rfl (Nat.le_of_ble_eq_true rfl) dX0_goOnFrom_34 (fun H locs hP hD hS => ?_)
    have hP : va_P (dC, dI) vwCl (wR cA r0 r1 r2 r3 r4 r5 r6 row rs tg st ln pa nd (va_up ar lv nod) (lv + 1) of) H := hP
    have hD : va_D A (wR cA r0 r1 r2 r3 r4 r5 r6 row rs tg st ln pa nd (va_up ar lv nod) (lv + 1) of) := hD
    refine lv_aload_n hx hb dX0_goOnFrom_37 rfl (lv_at hl 0 rfl) ?_
    refine va_get (D := (dC, dI)) (ci := 0) (v := .ref r3) (C := RX0) (T := TX0) (N := 10) hx hb hts hinX0 hown hK hP 0 rfl rfl 3 (by decide) hf_22 (fun _ h9 => h9) rfl dX0_goOnFrom_38 ?_
    refine lv_iload_n hx hb dX0_goOnFrom_41 rfl (lv_at hl 1 rfl) ?_
    refine hl_iald hx hb hK hP 3 0 rfl rfl (by omega) (by decide) dX0_goOnFrom_42 ?_
    have hv_3 := hst nod
    have hP9 : va_P (dC, dI) vwCl (vX0_goOnFrom cA r0 r1 r2 r3 r4 r5 r6 row rs tg st ln pa nd ar lv of nod (va_up ar lv nod, lv + 1)) _ := hP
    have hD9 : va_D A (vX0_goOnFrom cA r0 r1 r2 r3 r4 r5 r6 row rs tg st ln pa nd ar lv of nod (va_up ar lv nod, lv + 1)) := hD
    have hq9 : pX0_goOnFrom r0 r1 r2 r3 r4 r5 r6 row rs tg st ln pa nd ar lv of nod (nI (st nod)) (va_up ar lv nod, lv + 1) := Or.inl ⟨by assumption, rfl, rfl, rfl⟩
    exact W.iret (v := nI (st nod)) hx hb hr (fun t ht hW => ⟨⟨nI (st nod), (va_up ar lv nod, lv + 1), rfl, hq9, by rw [ht]; exact hP9, va_K.moved hW.alike hK, hD9⟩, hS.F ht⟩) hS.2.2 dX0_goOnFrom_43
  · refine lv_aload_n hx hb dX0_goOnFrom_11 rfl (lv_at hl 0 rfl) ?_
    refine lv_iload_n hx hb dX0_goOnFrom_12 rfl (lv_at hl 1 rfl) ?_
    refine cl_Vi (As := [.int (nI nod)]) (rest := []) (wr := []) ⟨hx, hb, hml, hown, hts⟩ (k_X0_endOf l dC dI cA r0 r1 r2 r3 r4 r5 r6 row rs tg st ln pa nd ar lv of nod _ (by omega)) (cwV 1 hts gX0_goOnFrom_X0_endOf rfl rfl rfl (by decide +kernel) ⟨Nat.le_of_ble_eq_true rfl, Nat.le_of_ble_eq_true rfl⟩) hK hP hD hS hA [0, 1, 2, 3, 4, 5, 6] [] rfl rfl (by decide) (by decide) (by decide) (ci := 0) (q0 := 0) rfl rfl rfl rfl hl.1 rfl (Nat.le_of_ble_eq_true rfl) dX0_goOnFrom_13 ⟨Nat.le_of_ble_eq_true rfl, Nat.le_of_ble_eq_true rfl⟩ (fun r_4 u_4 H locs hw_4 hP hD hS => ?_)
    have hP : va_P (dC, dI) vwCl (wR cA r0 r1 r2 r3 r4 r5 r6 row rs tg st ln pa nd ar lv of) H := hP
    have hD : va_D A (wR cA r0 r1 r2 r3 r4 r5 r6 row rs tg st ln pa nd ar lv of) := hD
    have hw_4 : r_4 = nI (st nod + ln nod) := hw_4
    have hw_4 := hw_4.symm
    subst hw_4
    have hP9 : va_P (dC, dI) vwCl (vX0_goOnFrom cA r0 r1 r2 r3 r4 r5 r6 row rs tg st ln pa nd ar lv of nod (ar, lv)) _ := hP
    have hD9 : va_D A (vX0_goOnFrom cA r0 r1 r2 r3 r4 r5 r6 row rs tg st ln pa nd ar lv of nod (ar, lv)) := hD
    have hq9 : pX0_goOnFrom r0 r1 r2 r3 r4 r5 r6 row rs tg st ln pa nd ar lv of nod (nI (st nod + ln nod)) (ar, lv) := Or.inr ⟨by assumption, rfl, rfl, rfl⟩
    exact W.iret (v := nI (st nod + ln nod)) hx hb hr (fun t ht hW => ⟨⟨nI (st nod + ln nod), (ar, lv), rfl, hq9, by rw [ht]; exact hP9, va_K.moved hW.alike hK, hD9⟩, hS.F ht⟩) hS.2.2 dX0_goOnFrom_16
abbrev pX0_leaveSequencesThatEndAt (r0 : Nat) (r1 : Nat) (r2 : Nat) (r3 : Nat) (r4 : Nat) (r5 : Nat) (r6 : Nat) (row : Nat → Nat) (rs : Nat) (tg : Nat → Nat) (st : Nat → Nat) (ln : Nat → Nat) (pa : Nat → Int32) (nd : Nat) (ar : Nat → Nat) (lv : Nat) (of : Int32) (pl : Nat) : Nat → Prop := fun (lv2 : Nat) => lv2 = popN st ln ar pl lv
abbrev vX0_leaveSequencesThatEndAt (cA : ClassId) (r0 : Nat) (r1 : Nat) (r2 : Nat) (r3 : Nat) (r4 : Nat) (r5 : Nat) (r6 : Nat) (row : Nat → Nat) (rs : Nat) (tg : Nat → Nat) (st : Nat → Nat) (ln : Nat → Nat) (pa : Nat → Int32) (nd : Nat) (ar : Nat → Nat) (lv : Nat) (of : Int32) (pl : Nat) : Nat → va_W := fun (lv2 : Nat) => wR cA r0 r1 r2 r3 r4 r5 r6 row rs tg st ln pa nd ar lv2 of
abbrev qX0_leaveSequencesThatEndAt (dC : Nat → ClassId) (dI : Nat → Nat → Nat) (cA : ClassId) (A : Nat → Prop) (r0 : Nat) (r1 : Nat) (r2 : Nat) (r3 : Nat) (r4 : Nat) (r5 : Nat) (r6 : Nat) (row : Nat → Nat) (rs : Nat) (tg : Nat → Nat) (st : Nat → Nat) (ln : Nat → Nat) (pa : Nat → Int32) (nd : Nat) (ar : Nat → Nat) (lv : Nat) (of : Int32) (pl : Nat) : Array Value → State → Outcome → State → Prop := va_Qv (pX0_leaveSequencesThatEndAt r0 r1 r2 r3 r4 r5 r6 row rs tg st ln pa nd ar lv of pl) (fun u => cAft dC dI cA A (vX0_leaveSequencesThatEndAt cA r0 r1 r2 r3 r4 r5 r6 row rs tg st ln pa nd ar lv of pl u)) A
set_option maxHeartbeats 4000000 in
set_option maxRecDepth 100000 in
theorem k_X0_leaveSequencesThatEndAt (l : Launch) (dC : Nat → ClassId) (dI : Nat → Nat → Nat) (cA : ClassId) (r0 : Nat) (r1 : Nat) (r2 : Nat) (r3 : Nat) (r4 : Nat) (r5 : Nat) (r6 : Nat) (row : Nat → Nat) (rs : Nat) (tg : Nat → Nat) (st : Nat → Nat) (ln : Nat → Nat) (pa : Nat → Int32) (nd : Nat) (ar : Nat → Nat) (lv : Nat) (of : Int32) (pl : Nat) (sz : Nat) (hst : ∀ j, st j < 1000) (hln : ∀ j, ln j < 65536) (har : ∀ j, ar j < 64) (hlv : lv ≤ 16) (hpl : pl ≤ 300) : Met l yX0_leaveSequencesThatEndAt wsX0_leaveSequencesThatEndAt ({ frames := 1, cells := 0, slots := 0, locals := 21 } : Room) (va_Pc [.ref r0, .int (nI pl)] (cPre dC dI cA (wR cA r0 r1 r2 r3 r4 r5 r6 row rs tg st ln pa nd ar lv of) sz)) (qX0_leaveSequencesThatEndAt dC dI cA (va_A (wR cA r0 r1 r2 r3 r4 r5 r6 row rs tg st ln pa nd ar lv of) sz) r0 r1 r2 r3 r4 r5 r6 row rs tg st ln pa nd ar lv of pl) 0 0 (va_A (wR cA r0 r1 r2 r3 r4 r5 r6 row rs tg st ln pa nd ar lv of) sz) := by
  refine Met.ofW (cc := cX0_leaveSequencesThatEndAt) (maxL := 2) (ret := none) (by decide) rfl ?_
  intro p e s m args below meth c s₁ B hml hv
  obtain ⟨rfl, hsz, hP, hK, hD0⟩ := hv
  have hx := B.exec
  have hb := B.bytes
  have hr := B.returns
  have hts := atoms_spec (ws := wsX0_leaveSequencesThatEndAt) B.pre
  have hown : s.vm.findClass RX0 = some m.cls := findClass_of_methodNamed B.named
  have hlocks := B.notSynchronized
  subst hsz
  have hD := hD0.self (sz := s.heap.size)
  generalize hAe : va_A (wR cA r0 r1 r2 r3 r4 r5 r6 row rs tg st ln pa nd ar lv of) s.heap.size = A at hD ⊢
  have hA : ∀ q : Nat, s.heap.size ≤ q → A q := fun q h => by rw [← hAe]; exact Or.inr h
  have hS : va_S A s.heap s.heap [] := va_S.rf
  have hl := lv_entry ([.ref r0, .int (nI pl)]) (n := 2) (Nat.le_of_ble_eq_true rfl)
  rw [lg_entry_eq]
  generalize (lg_sl ([.ref r0, .int (nI pl)]) ++ List.replicate (2 - (lg_sl ([.ref r0, .int (nI pl)])).length) Slot.unset).toArray = ls at hl ⊢
  have hl : lv_has ls 2 [(0, .ref r0), (1, .int (nI pl))] := hl
  have hinX0 : ∀ w ∈ wsX00, w ∈ wsX0_leaveSequencesThatEndAt := fun _ h => List.mem_cons_of_mem _ (List.mem_append_right _ h)
  have hf_34 := hts (.fieldLink RX0 34 "DerDesk$Reader" "around" "[I") (by decide +kernel)
  have hf_37 := hts (.fieldLink RX0 37 "DerDesk$Reader" "level" "I") (by decide +kernel)
  have hP : va_P (dC, dI) vwCl (wR cA r0 r1 r2 r3 r4 r5 r6 row rs tg st ln pa nd ar lv of) s.heap := hP
  have lp_0 : ∀ (nf : Nat) (lw : Nat), lw < nf → (lw ≤ 16) → (popN st ln ar pl lw = popN st ln ar pl lv) → ∀ (H : Heap) (locs : List Loc) (ls : Array Slot), va_P (dC, dI) vwCl (wR cA r0 r1 r2 r3 r4 r5 r6 row rs tg st ln pa nd ar lw of) H → va_D A (wR cA r0 r1 r2 r3 r4 r5 r6 row rs tg st ln pa nd ar lw of) → va_S A s.heap H locs → lv_has ls 2 [(0, .ref r0), (1, .int (nI pl))] → W p l e (headSpec wsX0_leaveSequencesThatEndAt ({ frames := 1, cells := 0, slots := 0, locals := 21 } : Room)).room s m ([.ref r0, .int (nI pl)] : List Value).toArray below meth c H locs 0 0 (MQ below (qX0_leaveSequencesThatEndAt dC dI cA A r0 r1 r2 r3 r4 r5 r6 row rs tg st ln pa nd ar lv of pl) ([.ref r0, .int (nI pl)] : List Value).toArray s 0 0 A) (F0 m 0 ls []) := by
    intro nf
    induction nf with
    | zero =>
      intro lw hm
      exact absurd hm (Nat.not_lt_zero _)
    | succ nf ih_0 =>
      intro lw hm hlw hpop H locs ls hP hD hS hl
      refine lv_aload_n hx hb dX0_leaveSequencesThatEndAt_0 rfl (lv_at hl 0 rfl) ?_
      refine va_get (D := (dC, dI)) (ci := 0) (v := .int (nI lw)) (C := RX0) (T := TX0) (N := 10) hx hb hts hinX0 hown hK hP 0 rfl rfl 8 (by decide) hf_37 (fun _ h9 => h9) rfl dX0_leaveSequencesThatEndAt_1 ?_
      refine hl_if_le (tgt := 39) hx hb dX0_leaveSequencesThatEndAt_4 (by decide) (by omega) (fun c_2 => ?_) (fun c_2 => ?_)
      · have hP9 : va_P (dC, dI) vwCl (vX0_leaveSequencesThatEndAt cA r0 r1 r2 r3 r4 r5 r6 row rs tg st ln pa nd ar lv of pl lw) _ := hP
        have hD9 : va_D A (vX0_leaveSequencesThatEndAt cA r0 r1 r2 r3 r4 r5 r6 row rs tg st ln pa nd ar lv of pl lw) := hD
        have hq9 : pX0_leaveSequencesThatEndAt r0 r1 r2 r3 r4 r5 r6 row rs tg st ln pa nd ar lv of pl lw := ((popN_stop (by first | (left; omega) | (right; assumption))).symm.trans hpop)
        exact W.vret hx hb hr (fun t ht hW => ⟨⟨lw, rfl, hq9, by rw [ht]; exact hP9, va_K.moved hW.alike hK, hD9⟩, hS.F ht⟩) hS.2.2 dX0_leaveSequencesThatEndAt_39
      · refine lv_aload_n hx hb dX0_leaveSequencesThatEndAt_7 rfl (lv_at hl 0 rfl) ?_
        refine lv_aload_n hx hb dX0_leaveSequencesThatEndAt_8 rfl (lv_at hl 0 rfl) ?_
        refine va_get (D := (dC, dI)) (ci := 0) (v := .ref r6) (C := RX0) (T := TX0) (N := 10) hx hb hts hinX0 hown hK hP 0 rfl rfl 7 (by decide) hf_34 (fun _ h9 => h9) rfl dX0_leaveSequencesThatEndAt_9 ?_
        refine lv_aload_n hx hb dX0_leaveSequencesThatEndAt_12 rfl (lv_at hl 0 rfl) ?_
        refine va_get (D := (dC, dI)) (ci := 0) (v := .int (nI lw)) (C := RX0) (T := TX0) (N := 10) hx hb hts hinX0 hown hK hP 0 rfl rfl 8 (by decide) hf_37 (fun _ h9 => h9) rfl dX0_leaveSequencesThatEndAt_13 ?_
        refine lv_iconst (v := nI 1) hx hb dX0_leaveSequencesThatEndAt_16 (by decide) ?_
        refine hl_isub hx hb (by omega) dX0_leaveSequencesThatEndAt_17 ?_
        refine hl_iald hx hb hK hP 6 0 rfl rfl (by omega) (by decide) dX0_leaveSequencesThatEndAt_18 ?_
        have hv_3 := har (lw - 1)
        refine cl_Vi (As := [.int (nI (ar (lw - 1)))]) (rest := []) (wr := []) ⟨hx, hb, hml, hown, hts⟩ (k_X0_endOf l dC dI cA r0 r1 r2 r3 r4 r5 r6 row rs tg st ln pa nd ar lw of (ar (lw - 1)) _ (by omega)) (cwV 1 hts gX0_leaveSequencesThatEndAt_X0_endOf rfl rfl rfl (by decide +kernel) ⟨Nat.le_of_ble_eq_true rfl, Nat.le_of_ble_eq_true rfl⟩) hK hP hD hS hA [0, 1, 2, 3, 4, 5, 6] [] rfl rfl (by decide) (by decide) (by decide) (ci := 0) (q0 := 0) rfl rfl rfl rfl hl.1 rfl (Nat.le_of_ble_eq_true rfl) dX0_leaveSequencesThatEndAt_19 ⟨Nat.le_of_ble_eq_true rfl, Nat.le_of_ble_eq_true rfl⟩ (fun r_4 u_4 H locs hw_4 hP hD hS => ?_)
        have hP : va_P (dC, dI) vwCl (wR cA r0 r1 r2 r3 r4 r5 r6 row rs tg st ln pa nd ar lw of) H := hP
        have hD : va_D A (wR cA r0 r1 r2 r3 r4 r5 r6 row rs tg st ln pa nd ar lw of) := hD
        have hw_4 : r_4 = nI (st (ar (lw - 1)) + ln (ar (lw - 1))) := hw_4
        have hw_4 := hw_4.symm
        subst hw_4
        have hE1 := hst (ar (lw - 1))
        have hE2 := hln (ar (lw - 1))
        refine lv_iload_n hx hb dX0_leaveSequencesThatEndAt_22 rfl (lv_at hl 1 rfl) ?_
        refine hl_icmp_ne (tgt := 39) hx hb dX0_leaveSequencesThatEndAt_23 (by decide) (by omega) (by omega) (fun c_5 => ?_) (fun c_5 => ?_)
        · have hP9 : va_P (dC, dI) vwCl (vX0_leaveSequencesThatEndAt cA r0 r1 r2 r3 r4 r5 r6 row rs tg st ln pa nd ar lv of pl lw) _ := hP
          have hD9 : va_D A (vX0_leaveSequencesThatEndAt cA r0 r1 r2 r3 r4 r5 r6 row rs tg st ln pa nd ar lv of pl lw) := hD
          have hq9 : pX0_leaveSequencesThatEndAt r0 r1 r2 r3 r4 r5 r6 row rs tg st ln pa nd ar lv of pl lw := ((popN_stop (by first | (left; omega) | (right; assumption))).symm.trans hpop)
          exact W.vret hx hb hr (fun t ht hW => ⟨⟨lw, rfl, hq9, by rw [ht]; exact hP9, va_K.moved hW.alike hK, hD9⟩, hS.F ht⟩) hS.2.2 dX0_leaveSequencesThatEndAt_39
        · refine lv_aload_n hx hb dX0_leaveSequencesThatEndAt_26 rfl (lv_at hl 0 rfl) ?_
          refine lv_dup hx hb dX0_leaveSequencesThatEndAt_27 rfl ?_
          refine va_get (D := (dC, dI)) (ci := 0) (v := .int (nI lw)) (C := RX0) (T := TX0) (N := 10) hx hb hts hinX0 hown hK hP 0 rfl rfl 8 (by decide) hf_37 (fun _ h9 => h9) rfl dX0_leaveSequencesThatEndAt_28 ?_
          refine lv_iconst (v := nI 1) hx hb dX0_leaveSequencesThatEndAt_31 (by decide) ?_
          refine hl_isub hx hb (by omega) dX0_leaveSequencesThatEndAt_32 ?_
          refine va_put (D := (dC, dI)) (ci := 0) (v := .int (nI (lw - 1))) (ty := .int) (C := RX0) (T := TX0) (N := 10) hx hb hts hinX0 tyX0 tyX0_ok nmX0 hown hK hP hD hS 0 rfl rfl 8 (by decide) hf_37 (fun _ h9 => h9) rfl (by decide +kernel) rfl rfl (Nat.le_of_ble_eq_true rfl) dX0_leaveSequencesThatEndAt_33 (fun H locs hP hD hS => ?_)
          have hP : va_P (dC, dI) vwCl (wR cA r0 r1 r2 r3 r4 r5 r6 row rs tg st ln pa nd ar (lw - 1) of) H := hP
          have hD : va_D A (wR cA r0 r1 r2 r3 r4 r5 r6 row rs tg st ln pa nd ar (lw - 1) of) := hD
          refine lv_goto (tgt := 0) hx hb dX0_leaveSequencesThatEndAt_36 (by decide) ?_
          exact ih_0 (lw - 1) (by omega) (by omega) (by rw [← hpop]; exact (popN_go (by omega) (by assumption)).symm) _ _ _ hP hD hS (lv_sub hl [0, 1] rfl)
  exact lp_0 (lv + 1) lv (Nat.lt_succ_self _) (by omega) rfl _ _ _ hP hD hS (lv_sub hl [0, 1] rfl)
