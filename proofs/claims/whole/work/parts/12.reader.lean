abbrev pX0_endOf (r0 : Nat) (r1 : Nat) (r2 : Nat) (r3 : Nat) (r4 : Nat) (r5 : Nat) (r6 : Nat) (row : Nat → Nat) (rs : Nat) (tg : Nat → Nat) (st : Nat → Nat) (ln : Nat → Nat) (pa : Nat → Int32) (nd : Nat) (ar : Nat → Nat) (lv : Nat) (of : Int32) (node : Nat) : Int32 → Unit → Prop := fun (r : Int32) (u : Unit) => r = nI (st node + ln node)
abbrev vX0_endOf (cA : ClassId) (r0 : Nat) (r1 : Nat) (r2 : Nat) (r3 : Nat) (r4 : Nat) (r5 : Nat) (r6 : Nat) (row : Nat → Nat) (rs : Nat) (tg : Nat → Nat) (st : Nat → Nat) (ln : Nat → Nat) (pa : Nat → Int32) (nd : Nat) (ar : Nat → Nat) (lv : Nat) (of : Int32) (node : Nat) : Unit → va_W := fun (u : Unit) => wR cA r0 r1 r2 r3 r4 r5 r6 row rs tg st ln pa nd ar lv of
abbrev qX0_endOf (dC : Nat → ClassId) (dI : Nat → Nat → Nat) (cA : ClassId) (A : Nat → Prop) (r0 : Nat) (r1 : Nat) (r2 : Nat) (r3 : Nat) (r4 : Nat) (r5 : Nat) (r6 : Nat) (row : Nat → Nat) (rs : Nat) (tg : Nat → Nat) (st : Nat → Nat) (ln : Nat → Nat) (pa : Nat → Int32) (nd : Nat) (ar : Nat → Nat) (lv : Nat) (of : Int32) (node : Nat) : Array Value → State → Outcome → State → Prop := va_Qi (pX0_endOf r0 r1 r2 r3 r4 r5 r6 row rs tg st ln pa nd ar lv of node) (fun u => cAft dC dI cA A (vX0_endOf cA r0 r1 r2 r3 r4 r5 r6 row rs tg st ln pa nd ar lv of node u)) A
set_option maxHeartbeats 4000000 in
set_option maxRecDepth 100000 in
theorem k_X0_endOf (l : Launch) (dC : Nat → ClassId) (dI : Nat → Nat → Nat) (cA : ClassId) (r0 : Nat) (r1 : Nat) (r2 : Nat) (r3 : Nat) (r4 : Nat) (r5 : Nat) (r6 : Nat) (row : Nat → Nat) (rs : Nat) (tg : Nat → Nat) (st : Nat → Nat) (ln : Nat → Nat) (pa : Nat → Int32) (nd : Nat) (ar : Nat → Nat) (lv : Nat) (of : Int32) (node : Nat) (sz : Nat) (hn1 : node < 64) : Met l yX0_endOf wsX0_endOf ({ frames := 0, cells := 0, slots := 0, locals := 0 } : Room) (va_Pc [.ref r0, .int (nI node)] (cPre dC dI cA (wR cA r0 r1 r2 r3 r4 r5 r6 row rs tg st ln pa nd ar lv of) sz)) (qX0_endOf dC dI cA (va_A (wR cA r0 r1 r2 r3 r4 r5 r6 row rs tg st ln pa nd ar lv of) sz) r0 r1 r2 r3 r4 r5 r6 row rs tg st ln pa nd ar lv of node) 0 0 (va_A (wR cA r0 r1 r2 r3 r4 r5 r6 row rs tg st ln pa nd ar lv of) sz) := by
  refine Met.ofW (cc := cX0_endOf) (maxL := 2) (ret := (some .int)) (by decide) rfl ?_
  intro p e s m args below meth c s₁ B hml hv
  obtain ⟨rfl, hsz, hP, hK, hD0⟩ := hv
  have hx := B.exec
  have hb := B.bytes
  have hr := B.returns
  have hts := atoms_spec (ws := wsX0_endOf) B.pre
  have hown : s.vm.findClass RX0 = some m.cls := findClass_of_methodNamed B.named
  have hlocks := B.notSynchronized
  subst hsz
  have hD := hD0.self (sz := s.heap.size)
  generalize hAe : va_A (wR cA r0 r1 r2 r3 r4 r5 r6 row rs tg st ln pa nd ar lv of) s.heap.size = A at hD ⊢
  have hA : ∀ q : Nat, s.heap.size ≤ q → A q := fun q h => by rw [← hAe]; exact Or.inr h
  have hS : va_S A s.heap s.heap [] := va_S.rf
  have hl := lv_entry ([.ref r0, .int (nI node)]) (n := 2) (Nat.le_of_ble_eq_true rfl)
  rw [lg_entry_eq]
  generalize (lg_sl ([.ref r0, .int (nI node)]) ++ List.replicate (2 - (lg_sl ([.ref r0, .int (nI node)])).length) Slot.unset).toArray = ls at hl ⊢
  have hl : lv_has ls 2 [(0, .ref r0), (1, .int (nI node))] := hl
  have hinX0 : ∀ w ∈ wsX00, w ∈ wsX0_endOf := fun _ h => List.mem_cons_of_mem _ (List.mem_append_right _ h)
  have hf_22 := hts (.fieldLink RX0 22 "DerDesk$Reader" "starts" "[I") (by decide +kernel)
  have hf_25 := hts (.fieldLink RX0 25 "DerDesk$Reader" "lengths" "[I") (by decide +kernel)
  have hP : va_P (dC, dI) vwCl (wR cA r0 r1 r2 r3 r4 r5 r6 row rs tg st ln pa nd ar lv of) s.heap := hP
  refine lv_aload_n hx hb dX0_endOf_0 rfl (lv_at hl 0 rfl) ?_
  refine va_get (D := (dC, dI)) (ci := 0) (v := .ref r3) (C := RX0) (T := TX0) (N := 10) hx hb hts hinX0 hown hK hP 0 rfl rfl 3 (by decide) hf_22 (fun _ h9 => h9) rfl dX0_endOf_1 ?_
  refine lv_iload_n hx hb dX0_endOf_4 rfl (lv_at hl 1 rfl) ?_
  refine hl_iald hx hb hK hP 3 0 rfl rfl (by omega) (by decide) dX0_endOf_5 ?_
  refine lv_aload_n hx hb dX0_endOf_6 rfl (lv_at hl 0 rfl) ?_
  refine va_get (D := (dC, dI)) (ci := 0) (v := .ref r4) (C := RX0) (T := TX0) (N := 10) hx hb hts hinX0 hown hK hP 0 rfl rfl 4 (by decide) hf_25 (fun _ h9 => h9) rfl dX0_endOf_7 ?_
  refine lv_iload_n hx hb dX0_endOf_10 rfl (lv_at hl 1 rfl) ?_
  refine hl_iald hx hb hK hP 4 0 rfl rfl (by omega) (by decide) dX0_endOf_11 ?_
  refine hl_iadd hx hb dX0_endOf_12 ?_
  have hP9 : va_P (dC, dI) vwCl (vX0_endOf cA r0 r1 r2 r3 r4 r5 r6 row rs tg st ln pa nd ar lv of node ()) _ := hP
  have hD9 : va_D A (vX0_endOf cA r0 r1 r2 r3 r4 r5 r6 row rs tg st ln pa nd ar lv of node ()) := hD
  have hq9 : pX0_endOf r0 r1 r2 r3 r4 r5 r6 row rs tg st ln pa nd ar lv of node (nI ((st node) + (ln node))) () := rfl
  exact W.iret (v := nI ((st node) + (ln node))) hx hb hr (fun t ht hW => ⟨⟨nI ((st node) + (ln node)), (), rfl, hq9, by rw [ht]; exact hP9, va_K.moved hW.alike hK, hD9⟩, hS.F ht⟩) hS.2.2 dX0_endOf_13
def limN (rs lv : Nat) (ar st ln : Nat → Nat) : Nat := if lv = 0 then rs else st (ar (lv - 1)) + ln (ar (lv - 1))
abbrev pX0_limitHere (r0 : Nat) (r1 : Nat) (r2 : Nat) (r3 : Nat) (r4 : Nat) (r5 : Nat) (r6 : Nat) (row : Nat → Nat) (rs : Nat) (tg : Nat → Nat) (st : Nat → Nat) (ln : Nat → Nat) (pa : Nat → Int32) (nd : Nat) (ar : Nat → Nat) (lv : Nat) (of : Int32) : Int32 → Unit → Prop := fun (r : Int32) (u : Unit) => r = nI (limN rs lv ar st ln)
abbrev vX0_limitHere (cA : ClassId) (r0 : Nat) (r1 : Nat) (r2 : Nat) (r3 : Nat) (r4 : Nat) (r5 : Nat) (r6 : Nat) (row : Nat → Nat) (rs : Nat) (tg : Nat → Nat) (st : Nat → Nat) (ln : Nat → Nat) (pa : Nat → Int32) (nd : Nat) (ar : Nat → Nat) (lv : Nat) (of : Int32) : Unit → va_W := fun (u : Unit) => wR cA r0 r1 r2 r3 r4 r5 r6 row rs tg st ln pa nd ar lv of
abbrev qX0_limitHere (dC : Nat → ClassId) (dI : Nat → Nat → Nat) (cA : ClassId) (A : Nat → Prop) (r0 : Nat) (r1 : Nat) (r2 : Nat) (r3 : Nat) (r4 : Nat) (r5 : Nat) (r6 : Nat) (row : Nat → Nat) (rs : Nat) (tg : Nat → Nat) (st : Nat → Nat) (ln : Nat → Nat) (pa : Nat → Int32) (nd : Nat) (ar : Nat → Nat) (lv : Nat) (of : Int32) : Array Value → State → Outcome → State → Prop := va_Qi (pX0_limitHere r0 r1 r2 r3 r4 r5 r6 row rs tg st ln pa nd ar lv of) (fun u => cAft dC dI cA A (vX0_limitHere cA r0 r1 r2 r3 r4 r5 r6 row rs tg st ln pa nd ar lv of u)) A
set_option maxHeartbeats 4000000 in
set_option maxRecDepth 100000 in
theorem k_X0_limitHere (l : Launch) (dC : Nat → ClassId) (dI : Nat → Nat → Nat) (cA : ClassId) (r0 : Nat) (r1 : Nat) (r2 : Nat) (r3 : Nat) (r4 : Nat) (r5 : Nat) (r6 : Nat) (row : Nat → Nat) (rs : Nat) (tg : Nat → Nat) (st : Nat → Nat) (ln : Nat → Nat) (pa : Nat → Int32) (nd : Nat) (ar : Nat → Nat) (lv : Nat) (of : Int32) (sz : Nat) (hlv : lv ≤ 16) (har : ∀ j, j < lv → ar j < 64) : Met l yX0_limitHere wsX0_limitHere ({ frames := 1, cells := 0, slots := 0, locals := 21 } : Room) (va_Pc [.ref r0] (cPre dC dI cA (wR cA r0 r1 r2 r3 r4 r5 r6 row rs tg st ln pa nd ar lv of) sz)) (qX0_limitHere dC dI cA (va_A (wR cA r0 r1 r2 r3 r4 r5 r6 row rs tg st ln pa nd ar lv of) sz) r0 r1 r2 r3 r4 r5 r6 row rs tg st ln pa nd ar lv of) 0 0 (va_A (wR cA r0 r1 r2 r3 r4 r5 r6 row rs tg st ln pa nd ar lv of) sz) := by
  refine Met.ofW (cc := cX0_limitHere) (maxL := 1) (ret := (some .int)) (by decide) rfl ?_
  intro p e s m args below meth c s₁ B hml hv
  obtain ⟨rfl, hsz, hP, hK, hD0⟩ := hv
  have hx := B.exec
  have hb := B.bytes
  have hr := B.returns
  have hts := atoms_spec (ws := wsX0_limitHere) B.pre
  have hown : s.vm.findClass RX0 = some m.cls := findClass_of_methodNamed B.named
  have hlocks := B.notSynchronized
  subst hsz
  have hD := hD0.self (sz := s.heap.size)
  generalize hAe : va_A (wR cA r0 r1 r2 r3 r4 r5 r6 row rs tg st ln pa nd ar lv of) s.heap.size = A at hD ⊢
  have hA : ∀ q : Nat, s.heap.size ≤ q → A q := fun q h => by rw [← hAe]; exact Or.inr h
  have hS : va_S A s.heap s.heap [] := va_S.rf
  have hl := lv_entry ([.ref r0]) (n := 1) (Nat.le_of_ble_eq_true rfl)
  rw [lg_entry_eq]
  generalize (lg_sl ([.ref r0]) ++ List.replicate (1 - (lg_sl ([.ref r0])).length) Slot.unset).toArray = ls at hl ⊢
  have hl : lv_has ls 1 [(0, .ref r0)] := hl
  have hinX0 : ∀ w ∈ wsX00, w ∈ wsX0_limitHere := fun _ h => List.mem_cons_of_mem _ (List.mem_append_right _ h)
  have hf_15 := hts (.fieldLink RX0 15 "DerDesk$Reader" "rowSize" "I") (by decide +kernel)
  have hf_34 := hts (.fieldLink RX0 34 "DerDesk$Reader" "around" "[I") (by decide +kernel)
  have hf_37 := hts (.fieldLink RX0 37 "DerDesk$Reader" "level" "I") (by decide +kernel)
  have hP : va_P (dC, dI) vwCl (wR cA r0 r1 r2 r3 r4 r5 r6 row rs tg st ln pa nd ar lv of) s.heap := hP
  refine lv_aload_n hx hb dX0_limitHere_0 rfl (lv_at hl 0 rfl) ?_
  refine va_get (D := (dC, dI)) (ci := 0) (v := .int (nI lv)) (C := RX0) (T := TX0) (N := 10) hx hb hts hinX0 hown hK hP 0 rfl rfl 8 (by decide) hf_37 (fun _ h9 => h9) rfl dX0_limitHere_1 ?_
  refine hl_if_ne (tgt := 14) hx hb dX0_limitHere_4 (by decide) (by omega) (fun c_1 => ?_) (fun c_1 => ?_)
  · refine lv_aload_n hx hb dX0_limitHere_14 rfl (lv_at hl 0 rfl) ?_
    refine lv_aload_n hx hb dX0_limitHere_15 rfl (lv_at hl 0 rfl) ?_
    refine va_get (D := (dC, dI)) (ci := 0) (v := .ref r6) (C := RX0) (T := TX0) (N := 10) hx hb hts hinX0 hown hK hP 0 rfl rfl 7 (by decide) hf_34 (fun _ h9 => h9) rfl dX0_limitHere_16 ?_
    refine lv_aload_n hx hb dX0_limitHere_19 rfl (lv_at hl 0 rfl) ?_
    refine va_get (D := (dC, dI)) (ci := 0) (v := .int (nI lv)) (C := RX0) (T := TX0) (N := 10) hx hb hts hinX0 hown hK hP 0 rfl rfl 8 (by decide) hf_37 (fun _ h9 => h9) rfl dX0_limitHere_20 ?_
    refine lv_iconst (v := nI 1) hx hb dX0_limitHere_23 (by decide) ?_
    refine hl_isub hx hb (by omega) dX0_limitHere_24 ?_
    refine hl_iald hx hb hK hP 6 0 rfl rfl (by omega) (by decide) dX0_limitHere_25 ?_
    refine cl_Vi (As := [.int (nI (ar (lv - 1)))]) (rest := []) (wr := []) ⟨hx, hb, hml, hown, hts⟩ (k_X0_endOf l dC dI cA r0 r1 r2 r3 r4 r5 r6 row rs tg st ln pa nd ar lv of (ar (lv - 1)) _ (har _ (by omega))) (cwV 1 hts gX0_limitHere_X0_endOf rfl rfl rfl (by decide +kernel) ⟨Nat.le_of_ble_eq_true rfl, Nat.le_of_ble_eq_true rfl⟩) hK hP hD hS hA [0, 1, 2, 3, 4, 5, 6] [] rfl rfl (by decide) (by decide) (by decide) (ci := 0) (q0 := 0) rfl rfl rfl rfl hl.1 rfl (Nat.le_of_ble_eq_true rfl) dX0_limitHere_26 ⟨Nat.le_of_ble_eq_true rfl, Nat.le_of_ble_eq_true rfl⟩ (fun r_2 u_2 H locs hw_2 hP hD hS => ?_)
    have hP : va_P (dC, dI) vwCl (wR cA r0 r1 r2 r3 r4 r5 r6 row rs tg st ln pa nd ar lv of) H := hP
    have hD : va_D A (wR cA r0 r1 r2 r3 r4 r5 r6 row rs tg st ln pa nd ar lv of) := hD
    have hw_2 : r_2 = nI (st (ar (lv - 1)) + ln (ar (lv - 1))) := hw_2
    have hw_2 := hw_2.symm
    subst hw_2
    have hP9 : va_P (dC, dI) vwCl (vX0_limitHere cA r0 r1 r2 r3 r4 r5 r6 row rs tg st ln pa nd ar lv of ()) _ := hP
    have hD9 : va_D A (vX0_limitHere cA r0 r1 r2 r3 r4 r5 r6 row rs tg st ln pa nd ar lv of ()) := hD
    have hq9 : pX0_limitHere r0 r1 r2 r3 r4 r5 r6 row rs tg st ln pa nd ar lv of (nI (st (ar (lv - 1)) + ln (ar (lv - 1)))) () := congrArg nI (by unfold limN; split <;> first | rfl | omega)
    exact W.iret (v := nI (st (ar (lv - 1)) + ln (ar (lv - 1)))) hx hb hr (fun t ht hW => ⟨⟨nI (st (ar (lv - 1)) + ln (ar (lv - 1))), (), rfl, hq9, by rw [ht]; exact hP9, va_K.moved hW.alike hK, hD9⟩, hS.F ht⟩) hS.2.2 dX0_limitHere_29
  · refine lv_aload_n hx hb dX0_limitHere_7 rfl (lv_at hl 0 rfl) ?_
    refine va_get (D := (dC, dI)) (ci := 0) (v := .int (nI rs)) (C := RX0) (T := TX0) (N := 10) hx hb hts hinX0 hown hK hP 0 rfl rfl 1 (by decide) hf_15 (fun _ h9 => h9) rfl dX0_limitHere_8 ?_
    refine lv_goto (tgt := 29) hx hb dX0_limitHere_11 (by decide) ?_
    have hP9 : va_P (dC, dI) vwCl (vX0_limitHere cA r0 r1 r2 r3 r4 r5 r6 row rs tg st ln pa nd ar lv of ()) _ := hP
    have hD9 : va_D A (vX0_limitHere cA r0 r1 r2 r3 r4 r5 r6 row rs tg st ln pa nd ar lv of ()) := hD
    have hq9 : pX0_limitHere r0 r1 r2 r3 r4 r5 r6 row rs tg st ln pa nd ar lv of (nI rs) () := congrArg nI (by unfold limN; split <;> first | rfl | omega)
    exact W.iret (v := nI rs) hx hb hr (fun t ht hW => ⟨⟨nI rs, (), rfl, hq9, by rw [ht]; exact hP9, va_K.moved hW.alike hK, hD9⟩, hS.F ht⟩) hS.2.2 dX0_limitHere_29
abbrev pX0_offend (r0 : Nat) (r1 : Nat) (r2 : Nat) (r3 : Nat) (r4 : Nat) (r5 : Nat) (r6 : Nat) (row : Nat → Nat) (rs : Nat) (tg : Nat → Nat) (st : Nat → Nat) (ln : Nat → Nat) (pa : Nat → Int32) (nd : Nat) (ar : Nat → Nat) (lv : Nat) (of : Int32) (code : Int32) (pl : Int32) : Int32 → Int32 → Prop := fun (r : Int32) (of2 : Int32) => r = code ∧ of2 = pl
abbrev vX0_offend (cA : ClassId) (r0 : Nat) (r1 : Nat) (r2 : Nat) (r3 : Nat) (r4 : Nat) (r5 : Nat) (r6 : Nat) (row : Nat → Nat) (rs : Nat) (tg : Nat → Nat) (st : Nat → Nat) (ln : Nat → Nat) (pa : Nat → Int32) (nd : Nat) (ar : Nat → Nat) (lv : Nat) (of : Int32) (code : Int32) (pl : Int32) : Int32 → va_W := fun (of2 : Int32) => wR cA r0 r1 r2 r3 r4 r5 r6 row rs tg st ln pa nd ar lv of2
abbrev qX0_offend (dC : Nat → ClassId) (dI : Nat → Nat → Nat) (cA : ClassId) (A : Nat → Prop) (r0 : Nat) (r1 : Nat) (r2 : Nat) (r3 : Nat) (r4 : Nat) (r5 : Nat) (r6 : Nat) (row : Nat → Nat) (rs : Nat) (tg : Nat → Nat) (st : Nat → Nat) (ln : Nat → Nat) (pa : Nat → Int32) (nd : Nat) (ar : Nat → Nat) (lv : Nat) (of : Int32) (code : Int32) (pl : Int32) : Array Value → State → Outcome → State → Prop := va_Qi (pX0_offend r0 r1 r2 r3 r4 r5 r6 row rs tg st ln pa nd ar lv of code pl) (fun u => cAft dC dI cA A (vX0_offend cA r0 r1 r2 r3 r4 r5 r6 row rs tg st ln pa nd ar lv of code pl u)) A
set_option maxHeartbeats 4000000 in
set_option maxRecDepth 100000 in
theorem k_X0_offend (l : Launch) (dC : Nat → ClassId) (dI : Nat → Nat → Nat) (cA : ClassId) (r0 : Nat) (r1 : Nat) (r2 : Nat) (r3 : Nat) (r4 : Nat) (r5 : Nat) (r6 : Nat) (row : Nat → Nat) (rs : Nat) (tg : Nat → Nat) (st : Nat → Nat) (ln : Nat → Nat) (pa : Nat → Int32) (nd : Nat) (ar : Nat → Nat) (lv : Nat) (of : Int32) (code : Int32) (pl : Int32) (sz : Nat)  : Met l yX0_offend wsX0_offend ({ frames := 0, cells := 0, slots := 0, locals := 0 } : Room) (va_Pc [.ref r0, .int code, .int pl] (cPre dC dI cA (wR cA r0 r1 r2 r3 r4 r5 r6 row rs tg st ln pa nd ar lv of) sz)) (qX0_offend dC dI cA (va_A (wR cA r0 r1 r2 r3 r4 r5 r6 row rs tg st ln pa nd ar lv of) sz) r0 r1 r2 r3 r4 r5 r6 row rs tg st ln pa nd ar lv of code pl) 0 0 (va_A (wR cA r0 r1 r2 r3 r4 r5 r6 row rs tg st ln pa nd ar lv of) sz) := by
  refine Met.ofW (cc := cX0_offend) (maxL := 3) (ret := (some .int)) (by decide) rfl ?_
  intro p e s m args below meth c s₁ B hml hv
  obtain ⟨rfl, hsz, hP, hK, hD0⟩ := hv
  have hx := B.exec
  have hb := B.bytes
  have hr := B.returns
  have hts := atoms_spec (ws := wsX0_offend) B.pre
  have hown : s.vm.findClass RX0 = some m.cls := findClass_of_methodNamed B.named
  have hlocks := B.notSynchronized
  subst hsz
  have hD := hD0.self (sz := s.heap.size)
  generalize hAe : va_A (wR cA r0 r1 r2 r3 r4 r5 r6 row rs tg st ln pa nd ar lv of) s.heap.size = A at hD ⊢
  have hA : ∀ q : Nat, s.heap.size ≤ q → A q := fun q h => by rw [← hAe]; exact Or.inr h
  have hS : va_S A s.heap s.heap [] := va_S.rf
  have hl := lv_entry ([.ref r0, .int code, .int pl]) (n := 3) (Nat.le_of_ble_eq_true rfl)
  rw [lg_entry_eq]
  generalize (lg_sl ([.ref r0, .int code, .int pl]) ++ List.replicate (3 - (lg_sl ([.ref r0, .int code, .int pl])).length) Slot.unset).toArray = ls at hl ⊢
  have hl : lv_has ls 3 [(0, .ref r0), (1, .int code), (2, .int pl)] := hl
  have hinX0 : ∀ w ∈ wsX00, w ∈ wsX0_offend := fun _ h => List.mem_cons_of_mem _ (List.mem_append_right _ h)
  have hf_40 := hts (.fieldLink RX0 40 "DerDesk$Reader" "offencePlace" "I") (by decide +kernel)
  have hP : va_P (dC, dI) vwCl (wR cA r0 r1 r2 r3 r4 r5 r6 row rs tg st ln pa nd ar lv of) s.heap := hP
  refine lv_aload_n hx hb dX0_offend_0 rfl (lv_at hl 0 rfl) ?_
  refine lv_iload_n hx hb dX0_offend_1 rfl (lv_at hl 2 rfl) ?_
  refine va_put (D := (dC, dI)) (ci := 0) (v := .int pl) (ty := .int) (C := RX0) (T := TX0) (N := 10) hx hb hts hinX0 tyX0 tyX0_ok nmX0 hown hK hP hD hS 0 rfl rfl 9 (by decide) hf_40 (fun _ h9 => h9) rfl (by decide +kernel) rfl rfl (Nat.le_of_ble_eq_true rfl) dX0_offend_2 (fun H locs hP hD hS => ?_)
  have hP : va_P (dC, dI) vwCl (wR cA r0 r1 r2 r3 r4 r5 r6 row rs tg st ln pa nd ar lv pl) H := hP
  have hD : va_D A (wR cA r0 r1 r2 r3 r4 r5 r6 row rs tg st ln pa nd ar lv pl) := hD
  refine lv_iload_n hx hb dX0_offend_5 rfl (lv_at hl 1 rfl) ?_
  have hP9 : va_P (dC, dI) vwCl (vX0_offend cA r0 r1 r2 r3 r4 r5 r6 row rs tg st ln pa nd ar lv of code pl pl) _ := hP
  have hD9 : va_D A (vX0_offend cA r0 r1 r2 r3 r4 r5 r6 row rs tg st ln pa nd ar lv of code pl pl) := hD
  have hq9 : pX0_offend r0 r1 r2 r3 r4 r5 r6 row rs tg st ln pa nd ar lv of code pl (code) pl := ⟨rfl, rfl⟩
  exact W.iret (v := code) hx hb hr (fun t ht hW => ⟨⟨code, pl, rfl, hq9, by rw [ht]; exact hP9, va_K.moved hW.alike hK, hD9⟩, hS.F ht⟩) hS.2.2 dX0_offend_6
abbrev pX0_isNode (r0 : Nat) (r1 : Nat) (r2 : Nat) (r3 : Nat) (r4 : Nat) (r5 : Nat) (r6 : Nat) (row : Nat → Nat) (rs : Nat) (tg : Nat → Nat) (st : Nat → Nat) (ln : Nat → Nat) (pa : Nat → Int32) (nd : Nat) (ar : Nat → Nat) (lv : Nat) (of : Int32) (node : Int32) : Int32 → Unit → Prop := fun (r : Int32) (u : Unit) => r = if isNd nd node then 1 else 0
abbrev vX0_isNode (cA : ClassId) (r0 : Nat) (r1 : Nat) (r2 : Nat) (r3 : Nat) (r4 : Nat) (r5 : Nat) (r6 : Nat) (row : Nat → Nat) (rs : Nat) (tg : Nat → Nat) (st : Nat → Nat) (ln : Nat → Nat) (pa : Nat → Int32) (nd : Nat) (ar : Nat → Nat) (lv : Nat) (of : Int32) (node : Int32) : Unit → va_W := fun (u : Unit) => wR cA r0 r1 r2 r3 r4 r5 r6 row rs tg st ln pa nd ar lv of
abbrev qX0_isNode (dC : Nat → ClassId) (dI : Nat → Nat → Nat) (cA : ClassId) (A : Nat → Prop) (r0 : Nat) (r1 : Nat) (r2 : Nat) (r3 : Nat) (r4 : Nat) (r5 : Nat) (r6 : Nat) (row : Nat → Nat) (rs : Nat) (tg : Nat → Nat) (st : Nat → Nat) (ln : Nat → Nat) (pa : Nat → Int32) (nd : Nat) (ar : Nat → Nat) (lv : Nat) (of : Int32) (node : Int32) : Array Value → State → Outcome → State → Prop := va_Qi (pX0_isNode r0 r1 r2 r3 r4 r5 r6 row rs tg st ln pa nd ar lv of node) (fun u => cAft dC dI cA A (vX0_isNode cA r0 r1 r2 r3 r4 r5 r6 row rs tg st ln pa nd ar lv of node u)) A
set_option maxHeartbeats 4000000 in
set_option maxRecDepth 100000 in
theorem k_X0_isNode (l : Launch) (dC : Nat → ClassId) (dI : Nat → Nat → Nat) (cA : ClassId) (r0 : Nat) (r1 : Nat) (r2 : Nat) (r3 : Nat) (r4 : Nat) (r5 : Nat) (r6 : Nat) (row : Nat → Nat) (rs : Nat) (tg : Nat → Nat) (st : Nat → Nat) (ln : Nat → Nat) (pa : Nat → Int32) (nd : Nat) (ar : Nat → Nat) (lv : Nat) (of : Int32) (node : Int32) (sz : Nat)  : Met l yX0_isNode wsX0_isNode ({ frames := 0, cells := 0, slots := 0, locals := 0 } : Room) (va_Pc [.ref r0, .int node] (cPre dC dI cA (wR cA r0 r1 r2 r3 r4 r5 r6 row rs tg st ln pa nd ar lv of) sz)) (qX0_isNode dC dI cA (va_A (wR cA r0 r1 r2 r3 r4 r5 r6 row rs tg st ln pa nd ar lv of) sz) r0 r1 r2 r3 r4 r5 r6 row rs tg st ln pa nd ar lv of node) 0 0 (va_A (wR cA r0 r1 r2 r3 r4 r5 r6 row rs tg st ln pa nd ar lv of) sz) := by
  refine Met.ofW (cc := cX0_isNode) (maxL := 2) (ret := (some .boolean)) (by decide) rfl ?_
  intro p e s m args below meth c s₁ B hml hv
  obtain ⟨rfl, hsz, hP, hK, hD0⟩ := hv
  have hx := B.exec
  have hb := B.bytes
  have hr := B.returns
  have hts := atoms_spec (ws := wsX0_isNode) B.pre
  have hown : s.vm.findClass RX0 = some m.cls := findClass_of_methodNamed B.named
  have hlocks := B.notSynchronized
  subst hsz
  have hD := hD0.self (sz := s.heap.size)
  generalize hAe : va_A (wR cA r0 r1 r2 r3 r4 r5 r6 row rs tg st ln pa nd ar lv of) s.heap.size = A at hD ⊢
  have hA : ∀ q : Nat, s.heap.size ≤ q → A q := fun q h => by rw [← hAe]; exact Or.inr h
  have hS : va_S A s.heap s.heap [] := va_S.rf
  have hl := lv_entry ([.ref r0, .int node]) (n := 2) (Nat.le_of_ble_eq_true rfl)
  rw [lg_entry_eq]
  generalize (lg_sl ([.ref r0, .int node]) ++ List.replicate (2 - (lg_sl ([.ref r0, .int node])).length) Slot.unset).toArray = ls at hl ⊢
  have hl : lv_has ls 2 [(0, .ref r0), (1, .int node)] := hl
  have hinX0 : ∀ w ∈ wsX00, w ∈ wsX0_isNode := fun _ h => List.mem_cons_of_mem _ (List.mem_append_right _ h)
  have hf_31 := hts (.fieldLink RX0 31 "DerDesk$Reader" "nodes" "I") (by decide +kernel)
  have hP : va_P (dC, dI) vwCl (wR cA r0 r1 r2 r3 r4 r5 r6 row rs tg st ln pa nd ar lv of) s.heap := hP
  refine lv_iload_n hx hb dX0_isNode_0 rfl (lv_at hl 1 rfl) ?_
  refine lv_if_lt (tgt := 16) hx hb dX0_isNode_1 (by decide) (fun c_1 => ?_) (fun c_1 => ?_)
  · refine lv_iconst (v := nI 0) hx hb dX0_isNode_16 (by decide) ?_
    have hP9 : va_P (dC, dI) vwCl (vX0_isNode cA r0 r1 r2 r3 r4 r5 r6 row rs tg st ln pa nd ar lv of node ()) _ := hP
    have hD9 : va_D A (vX0_isNode cA r0 r1 r2 r3 r4 r5 r6 row rs tg st ln pa nd ar lv of node ()) := hD
    have hq9 : pX0_isNode r0 r1 r2 r3 r4 r5 r6 row rs tg st ln pa nd ar lv of node (nI 0) () := (if_neg (by first | omega | grind)).symm
    exact W.zret (v := nI 0) hx hb hr rfl (fun t ht hW => ⟨⟨nI 0, (), rfl, hq9, by rw [ht]; exact hP9, va_K.moved hW.alike hK, hD9⟩, hS.F ht⟩) hS.2.2 dX0_isNode_17
  · refine lv_iload_n hx hb dX0_isNode_4 rfl (lv_at hl 1 rfl) ?_
    refine lv_aload_n hx hb dX0_isNode_5 rfl (lv_at hl 0 rfl) ?_
    refine va_get (D := (dC, dI)) (ci := 0) (v := .int (nI nd)) (C := RX0) (T := TX0) (N := 10) hx hb hts hinX0 hown hK hP 0 rfl rfl 6 (by decide) hf_31 (fun _ h9 => h9) rfl dX0_isNode_6 ?_
    refine lv_icmp_ge (tgt := 16) hx hb dX0_isNode_9 (by decide) (fun c_2 => ?_) (fun c_2 => ?_)
    · refine lv_iconst (v := nI 0) hx hb dX0_isNode_16 (by decide) ?_
      have hP9 : va_P (dC, dI) vwCl (vX0_isNode cA r0 r1 r2 r3 r4 r5 r6 row rs tg st ln pa nd ar lv of node ()) _ := hP
      have hD9 : va_D A (vX0_isNode cA r0 r1 r2 r3 r4 r5 r6 row rs tg st ln pa nd ar lv of node ()) := hD
      have hq9 : pX0_isNode r0 r1 r2 r3 r4 r5 r6 row rs tg st ln pa nd ar lv of node (nI 0) () := (if_neg (by first | omega | grind)).symm
      exact W.zret (v := nI 0) hx hb hr rfl (fun t ht hW => ⟨⟨nI 0, (), rfl, hq9, by rw [ht]; exact hP9, va_K.moved hW.alike hK, hD9⟩, hS.F ht⟩) hS.2.2 dX0_isNode_17
    · refine lv_iconst (v := nI 1) hx hb dX0_isNode_12 (by decide) ?_
      refine lv_goto (tgt := 17) hx hb dX0_isNode_13 (by decide) ?_
      have hP9 : va_P (dC, dI) vwCl (vX0_isNode cA r0 r1 r2 r3 r4 r5 r6 row rs tg st ln pa nd ar lv of node ()) _ := hP
      have hD9 : va_D A (vX0_isNode cA r0 r1 r2 r3 r4 r5 r6 row rs tg st ln pa nd ar lv of node ()) := hD
      have hq9 : pX0_isNode r0 r1 r2 r3 r4 r5 r6 row rs tg st ln pa nd ar lv of node (nI 1) () := (if_pos (by first | omega | grind)).symm
      exact W.zret (v := nI 1) hx hb hr rfl (fun t ht hW => ⟨⟨nI 1, (), rfl, hq9, by rw [ht]; exact hP9, va_K.moved hW.alike hK, hD9⟩, hS.F ht⟩) hS.2.2 dX0_isNode_17
abbrev pX0_addByte (r0 : Nat) (r1 : Nat) (r2 : Nat) (r3 : Nat) (r4 : Nat) (r5 : Nat) (r6 : Nat) (row : Nat → Nat) (rs : Nat) (tg : Nat → Nat) (st : Nat → Nat) (ln : Nat → Nat) (pa : Nat → Int32) (nd : Nat) (ar : Nat → Nat) (lv : Nat) (of : Int32) (b : Int32) : Int32 → (Nat → Nat) × Nat × Nat → Prop := fun (r : Int32) (u : (Nat → Nat) × Nat × Nat) => match u with | (row2, rs2, nd2) => (¬ isB b ∧ r = -1 ∧ row2 = row ∧ rs2 = rs ∧ nd2 = nd) ∨ (isB b ∧ rs = 300 ∧ r = -3 ∧ row2 = row ∧ rs2 = rs ∧ nd2 = nd) ∨ (isB b ∧ rs < 300 ∧ r = 0 ∧ row2 = va_up row rs b.toNatClampNeg ∧ rs2 = rs + 1 ∧ nd2 = 0)
abbrev vX0_addByte (cA : ClassId) (r0 : Nat) (r1 : Nat) (r2 : Nat) (r3 : Nat) (r4 : Nat) (r5 : Nat) (r6 : Nat) (row : Nat → Nat) (rs : Nat) (tg : Nat → Nat) (st : Nat → Nat) (ln : Nat → Nat) (pa : Nat → Int32) (nd : Nat) (ar : Nat → Nat) (lv : Nat) (of : Int32) (b : Int32) : (Nat → Nat) × Nat × Nat → va_W := fun (u : (Nat → Nat) × Nat × Nat) => match u with | (row2, rs2, nd2) => wR cA r0 r1 r2 r3 r4 r5 r6 row2 rs2 tg st ln pa nd2 ar lv of
abbrev qX0_addByte (dC : Nat → ClassId) (dI : Nat → Nat → Nat) (cA : ClassId) (A : Nat → Prop) (r0 : Nat) (r1 : Nat) (r2 : Nat) (r3 : Nat) (r4 : Nat) (r5 : Nat) (r6 : Nat) (row : Nat → Nat) (rs : Nat) (tg : Nat → Nat) (st : Nat → Nat) (ln : Nat → Nat) (pa : Nat → Int32) (nd : Nat) (ar : Nat → Nat) (lv : Nat) (of : Int32) (b : Int32) : Array Value → State → Outcome → State → Prop := va_Qi (pX0_addByte r0 r1 r2 r3 r4 r5 r6 row rs tg st ln pa nd ar lv of b) (fun u => cAft dC dI cA A (vX0_addByte cA r0 r1 r2 r3 r4 r5 r6 row rs tg st ln pa nd ar lv of b u)) A
set_option maxHeartbeats 4000000 in
set_option maxRecDepth 100000 in
theorem k_X0_addByte (l : Launch) (dC : Nat → ClassId) (dI : Nat → Nat → Nat) (cA : ClassId) (r0 : Nat) (r1 : Nat) (r2 : Nat) (r3 : Nat) (r4 : Nat) (r5 : Nat) (r6 : Nat) (row : Nat → Nat) (rs : Nat) (tg : Nat → Nat) (st : Nat → Nat) (ln : Nat → Nat) (pa : Nat → Int32) (nd : Nat) (ar : Nat → Nat) (lv : Nat) (of : Int32) (b : Int32) (sz : Nat) (hrs : rs ≤ 300) : Met l yX0_addByte wsX0_addByte ({ frames := 1, cells := 0, slots := 0, locals := 20 } : Room) (va_Pc [.ref r0, .int b] (cPre dC dI cA (wR cA r0 r1 r2 r3 r4 r5 r6 row rs tg st ln pa nd ar lv of) sz)) (qX0_addByte dC dI cA (va_A (wR cA r0 r1 r2 r3 r4 r5 r6 row rs tg st ln pa nd ar lv of) sz) r0 r1 r2 r3 r4 r5 r6 row rs tg st ln pa nd ar lv of b) 0 0 (va_A (wR cA r0 r1 r2 r3 r4 r5 r6 row rs tg st ln pa nd ar lv of) sz) := by
  refine Met.ofW (cc := cX0_addByte) (maxL := 2) (ret := (some .int)) (by decide) rfl ?_
  intro p e s m args below meth c s₁ B hml hv
  obtain ⟨rfl, hsz, hP, hK, hD0⟩ := hv
  have hx := B.exec
  have hb := B.bytes
  have hr := B.returns
  have hts := atoms_spec (ws := wsX0_addByte) B.pre
  have hown : s.vm.findClass RX0 = some m.cls := findClass_of_methodNamed B.named
  have hlocks := B.notSynchronized
  subst hsz
  have hD := hD0.self (sz := s.heap.size)
  generalize hAe : va_A (wR cA r0 r1 r2 r3 r4 r5 r6 row rs tg st ln pa nd ar lv of) s.heap.size = A at hD ⊢
  have hA : ∀ q : Nat, s.heap.size ≤ q → A q := fun q h => by rw [← hAe]; exact Or.inr h
  have hS : va_S A s.heap s.heap [] := va_S.rf
  have hl := lv_entry ([.ref r0, .int b]) (n := 2) (Nat.le_of_ble_eq_true rfl)
  rw [lg_entry_eq]
  generalize (lg_sl ([.ref r0, .int b]) ++ List.replicate (2 - (lg_sl ([.ref r0, .int b])).length) Slot.unset).toArray = ls at hl ⊢
  have hl : lv_has ls 2 [(0, .ref r0), (1, .int b)] := hl
  have hinX0 : ∀ w ∈ wsX00, w ∈ wsX0_addByte := fun _ h => List.mem_cons_of_mem _ (List.mem_append_right _ h)
  have hf_9 := hts (.fieldLink RX0 9 "DerDesk$Reader" "row" "[I") (by decide +kernel)
  have hf_15 := hts (.fieldLink RX0 15 "DerDesk$Reader" "rowSize" "I") (by decide +kernel)
  have hf_31 := hts (.fieldLink RX0 31 "DerDesk$Reader" "nodes" "I") (by decide +kernel)
  have hP : va_P (dC, dI) vwCl (wR cA r0 r1 r2 r3 r4 r5 r6 row rs tg st ln pa nd ar lv of) s.heap := hP
  refine lv_iload_n hx hb dX0_addByte_0 rfl (lv_at hl 1 rfl) ?_
  refine cl_Si (As := [.int b]) (rest := []) (wr := [(r0, .inr (0, [.ref r1, .int (nI rs), .ref r2, .ref r3, .ref r4, .ref r5, .int (nI nd), .ref r6, .int (nI lv), .int of])), (r1, .inl (cA, 300, .inl (nA row))), (r2, .inl (cA, 64, .inl (nA tg))), (r3, .inl (cA, 64, .inl (nA st))), (r4, .inl (cA, 64, .inl (nA ln))), (r5, .inl (cA, 64, .inl (pa))), (r6, .inl (cA, 16, .inl (nA ar)))]) ⟨hx, hb, hml, hown, hts⟩ (k_X1_isByte l dC dI cA b _ ) (va_cwS 1 hts gX0_addByte_X1_isByte rfl rfl rfl (by decide +kernel) ⟨Nat.le_of_ble_eq_true rfl, Nat.le_of_ble_eq_true rfl⟩) hK hP hD hS hA [] [0, 1, 2, 3, 4, 5, 6] rfl rfl (by decide) (by decide) (by decide) rfl hl.1 rfl (Nat.le_of_ble_eq_true rfl) dX0_addByte_1 ⟨Nat.le_of_ble_eq_true rfl, Nat.le_of_ble_eq_true rfl⟩ (fun r_1 u_1 H locs hw_1 hP hD hS => ?_)
  have hP : va_P (dC, dI) vwCl (wR cA r0 r1 r2 r3 r4 r5 r6 row rs tg st ln pa nd ar lv of) H := hP
  have hD : va_D A (wR cA r0 r1 r2 r3 r4 r5 r6 row rs tg st ln pa nd ar lv of) := hD
  have hw_1 : r_1 = if isB b then 1 else 0 := hw_1
  have hw_1 := hw_1.symm
  subst hw_1
  refine hl_ifb_ne (tgt := 9) hx hb dX0_addByte_4 (by decide) (fun c_2 => ?_) (fun c_2 => ?_)
  · refine lv_aload_n hx hb dX0_addByte_9 rfl (lv_at hl 0 rfl) ?_
    refine va_get (D := (dC, dI)) (ci := 0) (v := .int (nI rs)) (C := RX0) (T := TX0) (N := 10) hx hb hts hinX0 hown hK hP 0 rfl rfl 1 (by decide) hf_15 (fun _ h9 => h9) rfl dX0_addByte_10 ?_
    refine lv_sipush (v := nI 300) hx hb dX0_addByte_13 (by decide) ?_
    refine hl_icmp_lt (tgt := 22) hx hb dX0_addByte_16 (by decide) (by omega) (by omega) (fun c_3 => ?_) (fun c_3 => ?_)
    · refine lv_aload_n hx hb dX0_addByte_22 rfl (lv_at hl 0 rfl) ?_
      refine va_get (D := (dC, dI)) (ci := 0) (v := .ref r1) (C := RX0) (T := TX0) (N := 10) hx hb hts hinX0 hown hK hP 0 rfl rfl 0 (by decide) hf_9 (fun _ h9 => h9) rfl dX0_addByte_23 ?_
      refine lv_aload_n hx hb dX0_addByte_26 rfl (lv_at hl 0 rfl) ?_
      refine va_get (D := (dC, dI)) (ci := 0) (v := .int (nI rs)) (C := RX0) (T := TX0) (N := 10) hx hb hts hinX0 hown hK hP 0 rfl rfl 1 (by decide) hf_15 (fun _ h9 => h9) rfl dX0_addByte_27 ?_
      refine lv_iload_n hx hb dX0_addByte_30 rfl (lv_at hl 1 rfl) ?_
      have hq := ‹isB b›
      have hbl := cl_le hq.1 (by decide) hq.2
      refine hl_top (cl_of hq.1) ?_
      refine hl_iast hx hb hK hP hD hS 1 0 rfl rfl (by omega) (by decide) dX0_addByte_31 (fun H locs hP hD hS => ?_)
      have hP : va_P (dC, dI) vwCl (wR cA r0 r1 r2 r3 r4 r5 r6 (va_up row rs b.toNatClampNeg) rs tg st ln pa nd ar lv of) H := hP
      have hD : va_D A (wR cA r0 r1 r2 r3 r4 r5 r6 (va_up row rs b.toNatClampNeg) rs tg st ln pa nd ar lv of) := hD
      refine lv_aload_n hx hb dX0_addByte_32 rfl (lv_at hl 0 rfl) ?_
      refine lv_dup hx hb dX0_addByte_33 rfl ?_
      refine va_get (D := (dC, dI)) (ci := 0) (v := .int (nI rs)) (C := RX0) (T := TX0) (N := 10) hx hb hts hinX0 hown hK hP 0 rfl rfl 1 (by decide) hf_15 (fun _ h9 => h9) rfl dX0_addByte_34 ?_
      refine lv_iconst (v := nI 1) hx hb dX0_addByte_37 (by decide) ?_
      refine hl_iadd hx hb dX0_addByte_38 ?_
      refine va_put (D := (dC, dI)) (ci := 0) (v := .int (nI (rs + 1))) (ty := .int) (C := RX0) (T := TX0) (N := 10) hx hb hts hinX0 tyX0 tyX0_ok nmX0 hown hK hP hD hS 0 rfl rfl 1 (by decide) hf_15 (fun _ h9 => h9) rfl (by decide +kernel) rfl rfl (Nat.le_of_ble_eq_true rfl) dX0_addByte_39 (fun H locs hP hD hS => ?_)
      have hP : va_P (dC, dI) vwCl (wR cA r0 r1 r2 r3 r4 r5 r6 (va_up row rs b.toNatClampNeg) (rs + 1) tg st ln pa nd ar lv of) H := hP
      have hD : va_D A (wR cA r0 r1 r2 r3 r4 r5 r6 (va_up row rs b.toNatClampNeg) (rs + 1) tg st ln pa nd ar lv of) := hD
      refine lv_aload_n hx hb dX0_addByte_42 rfl (lv_at hl 0 rfl) ?_
      refine lv_iconst (v := nI 0) hx hb dX0_addByte_43 (by decide) ?_
      refine va_put (D := (dC, dI)) (ci := 0) (v := .int (nI 0)) (ty := .int) (C := RX0) (T := TX0) (N := 10) hx hb hts hinX0 tyX0 tyX0_ok nmX0 hown hK hP hD hS 0 rfl rfl 6 (by decide) hf_31 (fun _ h9 => h9) rfl (by decide +kernel) rfl rfl (Nat.le_of_ble_eq_true rfl) dX0_addByte_44 (fun H locs hP hD hS => ?_)
      have hP : va_P (dC, dI) vwCl (wR cA r0 r1 r2 r3 r4 r5 r6 (va_up row rs b.toNatClampNeg) (rs + 1) tg st ln pa 0 ar lv of) H := hP
      have hD : va_D A (wR cA r0 r1 r2 r3 r4 r5 r6 (va_up row rs b.toNatClampNeg) (rs + 1) tg st ln pa 0 ar lv of) := hD
      refine lv_iconst (v := nI 0) hx hb dX0_addByte_47 (by decide) ?_
      have hP9 : va_P (dC, dI) vwCl (vX0_addByte cA r0 r1 r2 r3 r4 r5 r6 row rs tg st ln pa nd ar lv of b (va_up row rs b.toNatClampNeg, rs + 1, 0)) _ := hP
      have hD9 : va_D A (vX0_addByte cA r0 r1 r2 r3 r4 r5 r6 row rs tg st ln pa nd ar lv of b (va_up row rs b.toNatClampNeg, rs + 1, 0)) := hD
      have hq9 : pX0_addByte r0 r1 r2 r3 r4 r5 r6 row rs tg st ln pa nd ar lv of b (nI 0) (va_up row rs b.toNatClampNeg, rs + 1, 0) := Or.inr (Or.inr ⟨by assumption, by omega, rfl, rfl, rfl, rfl⟩)
      exact W.iret (v := nI 0) hx hb hr (fun t ht hW => ⟨⟨nI 0, (va_up row rs b.toNatClampNeg, rs + 1, 0), rfl, hq9, by rw [ht]; exact hP9, va_K.moved hW.alike hK, hD9⟩, hS.F ht⟩) hS.2.2 dX0_addByte_48
    · refine lv_bipush (v := (-3)) hx hb dX0_addByte_19 (by decide) ?_
      have hP9 : va_P (dC, dI) vwCl (vX0_addByte cA r0 r1 r2 r3 r4 r5 r6 row rs tg st ln pa nd ar lv of b (row, rs, nd)) _ := hP
      have hD9 : va_D A (vX0_addByte cA r0 r1 r2 r3 r4 r5 r6 row rs tg st ln pa nd ar lv of b (row, rs, nd)) := hD
      have hq9 : pX0_addByte r0 r1 r2 r3 r4 r5 r6 row rs tg st ln pa nd ar lv of b ((-3)) (row, rs, nd) := Or.inr (Or.inl ⟨by assumption, by omega, rfl, rfl, rfl, rfl⟩)
      exact W.iret (v := (-3)) hx hb hr (fun t ht hW => ⟨⟨(-3), (row, rs, nd), rfl, hq9, by rw [ht]; exact hP9, va_K.moved hW.alike hK, hD9⟩, hS.F ht⟩) hS.2.2 dX0_addByte_21
  · refine lv_iconst (v := (-1)) hx hb dX0_addByte_7 (by decide) ?_
    have hP9 : va_P (dC, dI) vwCl (vX0_addByte cA r0 r1 r2 r3 r4 r5 r6 row rs tg st ln pa nd ar lv of b (row, rs, nd)) _ := hP
    have hD9 : va_D A (vX0_addByte cA r0 r1 r2 r3 r4 r5 r6 row rs tg st ln pa nd ar lv of b (row, rs, nd)) := hD
    have hq9 : pX0_addByte r0 r1 r2 r3 r4 r5 r6 row rs tg st ln pa nd ar lv of b ((-1)) (row, rs, nd) := Or.inl ⟨by assumption, rfl, rfl, rfl, rfl⟩
    exact W.iret (v := (-1)) hx hb hr (fun t ht hW => ⟨⟨(-1), (row, rs, nd), rfl, hq9, by rw [ht]; exact hP9, va_K.moved hW.alike hK, hD9⟩, hS.F ht⟩) hS.2.2 dX0_addByte_8
abbrev pX0_clear (r0 : Nat) (r1 : Nat) (r2 : Nat) (r3 : Nat) (r4 : Nat) (r5 : Nat) (r6 : Nat) (row : Nat → Nat) (rs : Nat) (tg : Nat → Nat) (st : Nat → Nat) (ln : Nat → Nat) (pa : Nat → Int32) (nd : Nat) (ar : Nat → Nat) (lv : Nat) (of : Int32) : Nat × Nat → Prop := fun (u : Nat × Nat) => match u with | (rs2, nd2) => rs2 = 0 ∧ nd2 = 0
abbrev vX0_clear (cA : ClassId) (r0 : Nat) (r1 : Nat) (r2 : Nat) (r3 : Nat) (r4 : Nat) (r5 : Nat) (r6 : Nat) (row : Nat → Nat) (rs : Nat) (tg : Nat → Nat) (st : Nat → Nat) (ln : Nat → Nat) (pa : Nat → Int32) (nd : Nat) (ar : Nat → Nat) (lv : Nat) (of : Int32) : Nat × Nat → va_W := fun (u : Nat × Nat) => match u with | (rs2, nd2) => wR cA r0 r1 r2 r3 r4 r5 r6 row rs2 tg st ln pa nd2 ar lv of
abbrev qX0_clear (dC : Nat → ClassId) (dI : Nat → Nat → Nat) (cA : ClassId) (A : Nat → Prop) (r0 : Nat) (r1 : Nat) (r2 : Nat) (r3 : Nat) (r4 : Nat) (r5 : Nat) (r6 : Nat) (row : Nat → Nat) (rs : Nat) (tg : Nat → Nat) (st : Nat → Nat) (ln : Nat → Nat) (pa : Nat → Int32) (nd : Nat) (ar : Nat → Nat) (lv : Nat) (of : Int32) : Array Value → State → Outcome → State → Prop := va_Qv (pX0_clear r0 r1 r2 r3 r4 r5 r6 row rs tg st ln pa nd ar lv of) (fun u => cAft dC dI cA A (vX0_clear cA r0 r1 r2 r3 r4 r5 r6 row rs tg st ln pa nd ar lv of u)) A
set_option maxHeartbeats 4000000 in
set_option maxRecDepth 100000 in
theorem k_X0_clear (l : Launch) (dC : Nat → ClassId) (dI : Nat → Nat → Nat) (cA : ClassId) (r0 : Nat) (r1 : Nat) (r2 : Nat) (r3 : Nat) (r4 : Nat) (r5 : Nat) (r6 : Nat) (row : Nat → Nat) (rs : Nat) (tg : Nat → Nat) (st : Nat → Nat) (ln : Nat → Nat) (pa : Nat → Int32) (nd : Nat) (ar : Nat → Nat) (lv : Nat) (of : Int32) (sz : Nat)  : Met l yX0_clear wsX0_clear ({ frames := 0, cells := 0, slots := 0, locals := 0 } : Room) (va_Pc [.ref r0] (cPre dC dI cA (wR cA r0 r1 r2 r3 r4 r5 r6 row rs tg st ln pa nd ar lv of) sz)) (qX0_clear dC dI cA (va_A (wR cA r0 r1 r2 r3 r4 r5 r6 row rs tg st ln pa nd ar lv of) sz) r0 r1 r2 r3 r4 r5 r6 row rs tg st ln pa nd ar lv of) 0 0 (va_A (wR cA r0 r1 r2 r3 r4 r5 r6 row rs tg st ln pa nd ar lv of) sz) := by
  refine Met.ofW (cc := cX0_clear) (maxL := 1) (ret := none) (by decide) rfl ?_
  intro p e s m args below meth c s₁ B hml hv
  obtain ⟨rfl, hsz, hP, hK, hD0⟩ := hv
  have hx := B.exec
  have hb := B.bytes
  have hr := B.returns
  have hts := atoms_spec (ws := wsX0_clear) B.pre
  have hown : s.vm.findClass RX0 = some m.cls := findClass_of_methodNamed B.named
  have hlocks := B.notSynchronized
  subst hsz
  have hD := hD0.self (sz := s.heap.size)
  generalize hAe : va_A (wR cA r0 r1 r2 r3 r4 r5 r6 row rs tg st ln pa nd ar lv of) s.heap.size = A at hD ⊢
  have hA : ∀ q : Nat, s.heap.size ≤ q → A q := fun q h => by rw [← hAe]; exact Or.inr h
  have hS : va_S A s.heap s.heap [] := va_S.rf
  have hl := lv_entry ([.ref r0]) (n := 1) (Nat.le_of_ble_eq_true rfl)
  rw [lg_entry_eq]
  generalize (lg_sl ([.ref r0]) ++ List.replicate (1 - (lg_sl ([.ref r0])).length) Slot.unset).toArray = ls at hl ⊢
  have hl : lv_has ls 1 [(0, .ref r0)] := hl
  have hinX0 : ∀ w ∈ wsX00, w ∈ wsX0_clear := fun _ h => List.mem_cons_of_mem _ (List.mem_append_right _ h)
  have hf_15 := hts (.fieldLink RX0 15 "DerDesk$Reader" "rowSize" "I") (by decide +kernel)
  have hf_31 := hts (.fieldLink RX0 31 "DerDesk$Reader" "nodes" "I") (by decide +kernel)
  have hP : va_P (dC, dI) vwCl (wR cA r0 r1 r2 r3 r4 r5 r6 row rs tg st ln pa nd ar lv of) s.heap := hP
  refine lv_aload_n hx hb dX0_clear_0 rfl (lv_at hl 0 rfl) ?_
  refine lv_iconst (v := nI 0) hx hb dX0_clear_1 (by decide) ?_
  refine va_put (D := (dC, dI)) (ci := 0) (v := .int (nI 0)) (ty := .int) (C := RX0) (T := TX0) (N := 10) hx hb hts hinX0 tyX0 tyX0_ok nmX0 hown hK hP hD hS 0 rfl rfl 1 (by decide) hf_15 (fun _ h9 => h9) rfl (by decide +kernel) rfl rfl (Nat.le_of_ble_eq_true rfl) dX0_clear_2 (fun H locs hP hD hS => ?_)
  have hP : va_P (dC, dI) vwCl (wR cA r0 r1 r2 r3 r4 r5 r6 row 0 tg st ln pa nd ar lv of) H := hP
  have hD : va_D A (wR cA r0 r1 r2 r3 r4 r5 r6 row 0 tg st ln pa nd ar lv of) := hD
  refine lv_aload_n hx hb dX0_clear_5 rfl (lv_at hl 0 rfl) ?_
  refine lv_iconst (v := nI 0) hx hb dX0_clear_6 (by decide) ?_
  refine va_put (D := (dC, dI)) (ci := 0) (v := .int (nI 0)) (ty := .int) (C := RX0) (T := TX0) (N := 10) hx hb hts hinX0 tyX0 tyX0_ok nmX0 hown hK hP hD hS 0 rfl rfl 6 (by decide) hf_31 (fun _ h9 => h9) rfl (by decide +kernel) rfl rfl (Nat.le_of_ble_eq_true rfl) dX0_clear_7 (fun H locs hP hD hS => ?_)
  have hP : va_P (dC, dI) vwCl (wR cA r0 r1 r2 r3 r4 r5 r6 row 0 tg st ln pa 0 ar lv of) H := hP
  have hD : va_D A (wR cA r0 r1 r2 r3 r4 r5 r6 row 0 tg st ln pa 0 ar lv of) := hD
  have hP9 : va_P (dC, dI) vwCl (vX0_clear cA r0 r1 r2 r3 r4 r5 r6 row rs tg st ln pa nd ar lv of (0, 0)) _ := hP
  have hD9 : va_D A (vX0_clear cA r0 r1 r2 r3 r4 r5 r6 row rs tg st ln pa nd ar lv of (0, 0)) := hD
  have hq9 : pX0_clear r0 r1 r2 r3 r4 r5 r6 row rs tg st ln pa nd ar lv of (0, 0) := ⟨rfl, rfl⟩
  exact W.vret hx hb hr (fun t ht hW => ⟨⟨(0, 0), rfl, hq9, by rw [ht]; exact hP9, va_K.moved hW.alike hK, hD9⟩, hS.F ht⟩) hS.2.2 dX0_clear_10
abbrev pX0_ofNode_tg (r0 : Nat) (r1 : Nat) (r2 : Nat) (r3 : Nat) (r4 : Nat) (r5 : Nat) (r6 : Nat) (row : Nat → Nat) (rs : Nat) (tg : Nat → Nat) (st : Nat → Nat) (ln : Nat → Nat) (pa : Nat → Int32) (nd : Nat) (ar : Nat → Nat) (lv : Nat) (of : Int32) (node : Int32) : Int32 → Unit → Prop := fun (r : Int32) (u : Unit) => r = if isNd nd node then nI (tg node.toNatClampNeg) else -1
abbrev vX0_ofNode_tg (cA : ClassId) (r0 : Nat) (r1 : Nat) (r2 : Nat) (r3 : Nat) (r4 : Nat) (r5 : Nat) (r6 : Nat) (row : Nat → Nat) (rs : Nat) (tg : Nat → Nat) (st : Nat → Nat) (ln : Nat → Nat) (pa : Nat → Int32) (nd : Nat) (ar : Nat → Nat) (lv : Nat) (of : Int32) (node : Int32) : Unit → va_W := fun (u : Unit) => wR cA r0 r1 r2 r3 r4 r5 r6 row rs tg st ln pa nd ar lv of
abbrev qX0_ofNode_tg (dC : Nat → ClassId) (dI : Nat → Nat → Nat) (cA : ClassId) (A : Nat → Prop) (r0 : Nat) (r1 : Nat) (r2 : Nat) (r3 : Nat) (r4 : Nat) (r5 : Nat) (r6 : Nat) (row : Nat → Nat) (rs : Nat) (tg : Nat → Nat) (st : Nat → Nat) (ln : Nat → Nat) (pa : Nat → Int32) (nd : Nat) (ar : Nat → Nat) (lv : Nat) (of : Int32) (node : Int32) : Array Value → State → Outcome → State → Prop := va_Qi (pX0_ofNode_tg r0 r1 r2 r3 r4 r5 r6 row rs tg st ln pa nd ar lv of node) (fun u => cAft dC dI cA A (vX0_ofNode_tg cA r0 r1 r2 r3 r4 r5 r6 row rs tg st ln pa nd ar lv of node u)) A
set_option maxHeartbeats 4000000 in
set_option maxRecDepth 100000 in
theorem k_X0_ofNode_tg (l : Launch) (dC : Nat → ClassId) (dI : Nat → Nat → Nat) (cA : ClassId) (r0 : Nat) (r1 : Nat) (r2 : Nat) (r3 : Nat) (r4 : Nat) (r5 : Nat) (r6 : Nat) (row : Nat → Nat) (rs : Nat) (tg : Nat → Nat) (st : Nat → Nat) (ln : Nat → Nat) (pa : Nat → Int32) (nd : Nat) (ar : Nat → Nat) (lv : Nat) (of : Int32) (node : Int32) (sz : Nat) (hnd : nd ≤ 64) : Met l yX0_ofNode wsX0_ofNode ({ frames := 1, cells := 0, slots := 0, locals := 21 } : Room) (va_Pc [.ref r0, .ref r2, .int node] (cPre dC dI cA (wR cA r0 r1 r2 r3 r4 r5 r6 row rs tg st ln pa nd ar lv of) sz)) (qX0_ofNode_tg dC dI cA (va_A (wR cA r0 r1 r2 r3 r4 r5 r6 row rs tg st ln pa nd ar lv of) sz) r0 r1 r2 r3 r4 r5 r6 row rs tg st ln pa nd ar lv of node) 0 0 (va_A (wR cA r0 r1 r2 r3 r4 r5 r6 row rs tg st ln pa nd ar lv of) sz) := by
  refine Met.ofW (cc := cX0_ofNode) (maxL := 3) (ret := (some .int)) (by decide) rfl ?_
  intro p e s m args below meth c s₁ B hml hv
  obtain ⟨rfl, hsz, hP, hK, hD0⟩ := hv
  have hx := B.exec
  have hb := B.bytes
  have hr := B.returns
  have hts := atoms_spec (ws := wsX0_ofNode) B.pre
  have hown : s.vm.findClass RX0 = some m.cls := findClass_of_methodNamed B.named
  have hlocks := B.notSynchronized
  subst hsz
  have hD := hD0.self (sz := s.heap.size)
  generalize hAe : va_A (wR cA r0 r1 r2 r3 r4 r5 r6 row rs tg st ln pa nd ar lv of) s.heap.size = A at hD ⊢
  have hA : ∀ q : Nat, s.heap.size ≤ q → A q := fun q h => by rw [← hAe]; exact Or.inr h
  have hS : va_S A s.heap s.heap [] := va_S.rf
  have hl := lv_entry ([.ref r0, .ref r2, .int node]) (n := 3) (Nat.le_of_ble_eq_true rfl)
  rw [lg_entry_eq]
  generalize (lg_sl ([.ref r0, .ref r2, .int node]) ++ List.replicate (3 - (lg_sl ([.ref r0, .ref r2, .int node])).length) Slot.unset).toArray = ls at hl ⊢
  have hl : lv_has ls 3 [(0, .ref r0), (1, .ref r2), (2, .int node)] := hl
  have hinX0 : ∀ w ∈ wsX00, w ∈ wsX0_ofNode := fun _ h => List.mem_cons_of_mem _ (List.mem_append_right _ h)
  have hP : va_P (dC, dI) vwCl (wR cA r0 r1 r2 r3 r4 r5 r6 row rs tg st ln pa nd ar lv of) s.heap := hP
  refine lv_aload_n hx hb dX0_ofNode_0 rfl (lv_at hl 0 rfl) ?_
  refine lv_iload_n hx hb dX0_ofNode_1 rfl (lv_at hl 2 rfl) ?_
  refine cl_Vi (As := [.int node]) (rest := []) (wr := []) ⟨hx, hb, hml, hown, hts⟩ (k_X0_isNode l dC dI cA r0 r1 r2 r3 r4 r5 r6 row rs tg st ln pa nd ar lv of node _ ) (cwV 1 hts gX0_ofNode_X0_isNode rfl rfl rfl (by decide +kernel) ⟨Nat.le_of_ble_eq_true rfl, Nat.le_of_ble_eq_true rfl⟩) hK hP hD hS hA [0, 1, 2, 3, 4, 5, 6] [] rfl rfl (by decide) (by decide) (by decide) (ci := 0) (q0 := 0) rfl rfl rfl rfl hl.1 rfl (Nat.le_of_ble_eq_true rfl) dX0_ofNode_2 ⟨Nat.le_of_ble_eq_true rfl, Nat.le_of_ble_eq_true rfl⟩ (fun r_1 u_1 H locs hw_1 hP hD hS => ?_)
  have hP : va_P (dC, dI) vwCl (wR cA r0 r1 r2 r3 r4 r5 r6 row rs tg st ln pa nd ar lv of) H := hP
  have hD : va_D A (wR cA r0 r1 r2 r3 r4 r5 r6 row rs tg st ln pa nd ar lv of) := hD
  have hw_1 : r_1 = if isNd nd node then 1 else 0 := hw_1
  have hw_1 := hw_1.symm
  subst hw_1
  refine hl_ifb_eq (tgt := 14) hx hb dX0_ofNode_5 (by decide) (fun c_2 => ?_) (fun c_2 => ?_)
  · refine lv_iconst (v := (-1)) hx hb dX0_ofNode_14 (by decide) ?_
    have hP9 : va_P (dC, dI) vwCl (vX0_ofNode_tg cA r0 r1 r2 r3 r4 r5 r6 row rs tg st ln pa nd ar lv of node ()) _ := hP
    have hD9 : va_D A (vX0_ofNode_tg cA r0 r1 r2 r3 r4 r5 r6 row rs tg st ln pa nd ar lv of node ()) := hD
    have hq9 : pX0_ofNode_tg r0 r1 r2 r3 r4 r5 r6 row rs tg st ln pa nd ar lv of node ((-1)) () := (if_neg (by assumption)).symm
    exact W.iret (v := (-1)) hx hb hr (fun t ht hW => ⟨⟨(-1), (), rfl, hq9, by rw [ht]; exact hP9, va_K.moved hW.alike hK, hD9⟩, hS.F ht⟩) hS.2.2 dX0_ofNode_15
  · refine lv_aload_n hx hb dX0_ofNode_8 rfl (lv_at hl 1 rfl) ?_
    refine lv_iload_n hx hb dX0_ofNode_9 rfl (lv_at hl 2 rfl) ?_
    have hq := ‹isNd nd node›
    have hnl := cl_lt hq.1 (by omega) hq.2
    refine hl_top (cl_of hq.1) ?_
    refine hl_iald hx hb hK hP 2 0 rfl rfl (by omega) (by decide) dX0_ofNode_10 ?_
    refine lv_goto (tgt := 15) hx hb dX0_ofNode_11 (by decide) ?_
    have hP9 : va_P (dC, dI) vwCl (vX0_ofNode_tg cA r0 r1 r2 r3 r4 r5 r6 row rs tg st ln pa nd ar lv of node ()) _ := hP
    have hD9 : va_D A (vX0_ofNode_tg cA r0 r1 r2 r3 r4 r5 r6 row rs tg st ln pa nd ar lv of node ()) := hD
    have hq9 : pX0_ofNode_tg r0 r1 r2 r3 r4 r5 r6 row rs tg st ln pa nd ar lv of node (nI (tg node.toNatClampNeg)) () := (if_pos (by assumption)).symm
    exact W.iret (v := nI (tg node.toNatClampNeg)) hx hb hr (fun t ht hW => ⟨⟨nI (tg node.toNatClampNeg), (), rfl, hq9, by rw [ht]; exact hP9, va_K.moved hW.alike hK, hD9⟩, hS.F ht⟩) hS.2.2 dX0_ofNode_15
abbrev pX0_ofNode_st (r0 : Nat) (r1 : Nat) (r2 : Nat) (r3 : Nat) (r4 : Nat) (r5 : Nat) (r6 : Nat) (row : Nat → Nat) (rs : Nat) (tg : Nat → Nat) (st : Nat → Nat) (ln : Nat → Nat) (pa : Nat → Int32) (nd : Nat) (ar : Nat → Nat) (lv : Nat) (of : Int32) (node : Int32) : Int32 → Unit → Prop := fun (r : Int32) (u : Unit) => r = if isNd nd node then nI (st node.toNatClampNeg) else -1
abbrev vX0_ofNode_st (cA : ClassId) (r0 : Nat) (r1 : Nat) (r2 : Nat) (r3 : Nat) (r4 : Nat) (r5 : Nat) (r6 : Nat) (row : Nat → Nat) (rs : Nat) (tg : Nat → Nat) (st : Nat → Nat) (ln : Nat → Nat) (pa : Nat → Int32) (nd : Nat) (ar : Nat → Nat) (lv : Nat) (of : Int32) (node : Int32) : Unit → va_W := fun (u : Unit) => wR cA r0 r1 r2 r3 r4 r5 r6 row rs tg st ln pa nd ar lv of
abbrev qX0_ofNode_st (dC : Nat → ClassId) (dI : Nat → Nat → Nat) (cA : ClassId) (A : Nat → Prop) (r0 : Nat) (r1 : Nat) (r2 : Nat) (r3 : Nat) (r4 : Nat) (r5 : Nat) (r6 : Nat) (row : Nat → Nat) (rs : Nat) (tg : Nat → Nat) (st : Nat → Nat) (ln : Nat → Nat) (pa : Nat → Int32) (nd : Nat) (ar : Nat → Nat) (lv : Nat) (of : Int32) (node : Int32) : Array Value → State → Outcome → State → Prop := va_Qi (pX0_ofNode_st r0 r1 r2 r3 r4 r5 r6 row rs tg st ln pa nd ar lv of node) (fun u => cAft dC dI cA A (vX0_ofNode_st cA r0 r1 r2 r3 r4 r5 r6 row rs tg st ln pa nd ar lv of node u)) A
set_option maxHeartbeats 4000000 in
set_option maxRecDepth 100000 in
theorem k_X0_ofNode_st (l : Launch) (dC : Nat → ClassId) (dI : Nat → Nat → Nat) (cA : ClassId) (r0 : Nat) (r1 : Nat) (r2 : Nat) (r3 : Nat) (r4 : Nat) (r5 : Nat) (r6 : Nat) (row : Nat → Nat) (rs : Nat) (tg : Nat → Nat) (st : Nat → Nat) (ln : Nat → Nat) (pa : Nat → Int32) (nd : Nat) (ar : Nat → Nat) (lv : Nat) (of : Int32) (node : Int32) (sz : Nat) (hnd : nd ≤ 64) : Met l yX0_ofNode wsX0_ofNode ({ frames := 1, cells := 0, slots := 0, locals := 21 } : Room) (va_Pc [.ref r0, .ref r3, .int node] (cPre dC dI cA (wR cA r0 r1 r2 r3 r4 r5 r6 row rs tg st ln pa nd ar lv of) sz)) (qX0_ofNode_st dC dI cA (va_A (wR cA r0 r1 r2 r3 r4 r5 r6 row rs tg st ln pa nd ar lv of) sz) r0 r1 r2 r3 r4 r5 r6 row rs tg st ln pa nd ar lv of node) 0 0 (va_A (wR cA r0 r1 r2 r3 r4 r5 r6 row rs tg st ln pa nd ar lv of) sz) := by
  refine Met.ofW (cc := cX0_ofNode) (maxL := 3) (ret := (some .int)) (by decide) rfl ?_
  intro p e s m args below meth c s₁ B hml hv
  obtain ⟨rfl, hsz, hP, hK, hD0⟩ := hv
  have hx := B.exec
  have hb := B.bytes
  have hr := B.returns
  have hts := atoms_spec (ws := wsX0_ofNode) B.pre
  have hown : s.vm.findClass RX0 = some m.cls := findClass_of_methodNamed B.named
  have hlocks := B.notSynchronized
  subst hsz
  have hD := hD0.self (sz := s.heap.size)
  generalize hAe : va_A (wR cA r0 r1 r2 r3 r4 r5 r6 row rs tg st ln pa nd ar lv of) s.heap.size = A at hD ⊢
  have hA : ∀ q : Nat, s.heap.size ≤ q → A q := fun q h => by rw [← hAe]; exact Or.inr h
  have hS : va_S A s.heap s.heap [] := va_S.rf
  have hl := lv_entry ([.ref r0, .ref r3, .int node]) (n := 3) (Nat.le_of_ble_eq_true rfl)
  rw [lg_entry_eq]
  generalize (lg_sl ([.ref r0, .ref r3, .int node]) ++ List.replicate (3 - (lg_sl ([.ref r0, .ref r3, .int node])).length) Slot.unset).toArray = ls at hl ⊢
  have hl : lv_has ls 3 [(0, .ref r0), (1, .ref r3), (2, .int node)] := hl
  have hinX0 : ∀ w ∈ wsX00, w ∈ wsX0_ofNode := fun _ h => List.mem_cons_of_mem _ (List.mem_append_right _ h)
  have hP : va_P (dC, dI) vwCl (wR cA r0 r1 r2 r3 r4 r5 r6 row rs tg st ln pa nd ar lv of) s.heap := hP
  refine lv_aload_n hx hb dX0_ofNode_0 rfl (lv_at hl 0 rfl) ?_
  refine lv_iload_n hx hb dX0_ofNode_1 rfl (lv_at hl 2 rfl) ?_
  refine cl_Vi (As := [.int node]) (rest := []) (wr := []) ⟨hx, hb, hml, hown, hts⟩ (k_X0_isNode l dC dI cA r0 r1 r2 r3 r4 r5 r6 row rs tg st ln pa nd ar lv of node _ ) (cwV 1 hts gX0_ofNode_X0_isNode rfl rfl rfl (by decide +kernel) ⟨Nat.le_of_ble_eq_true rfl, Nat.le_of_ble_eq_true rfl⟩) hK hP hD hS hA [0, 1, 2, 3, 4, 5, 6] [] rfl rfl (by decide) (by decide) (by decide) (ci := 0) (q0 := 0) rfl rfl rfl rfl hl.1 rfl (Nat.le_of_ble_eq_true rfl) dX0_ofNode_2 ⟨Nat.le_of_ble_eq_true rfl, Nat.le_of_ble_eq_true rfl⟩ (fun r_1 u_1 H locs hw_1 hP hD hS => ?_)
  have hP : va_P (dC, dI) vwCl (wR cA r0 r1 r2 r3 r4 r5 r6 row rs tg st ln pa nd ar lv of) H := hP
  have hD : va_D A (wR cA r0 r1 r2 r3 r4 r5 r6 row rs tg st ln pa nd ar lv of) := hD
  have hw_1 : r_1 = if isNd nd node then 1 else 0 := hw_1
  have hw_1 := hw_1.symm
  subst hw_1
  refine hl_ifb_eq (tgt := 14) hx hb dX0_ofNode_5 (by decide) (fun c_2 => ?_) (fun c_2 => ?_)
  · refine lv_iconst (v := (-1)) hx hb dX0_ofNode_14 (by decide) ?_
    have hP9 : va_P (dC, dI) vwCl (vX0_ofNode_st cA r0 r1 r2 r3 r4 r5 r6 row rs tg st ln pa nd ar lv of node ()) _ := hP
    have hD9 : va_D A (vX0_ofNode_st cA r0 r1 r2 r3 r4 r5 r6 row rs tg st ln pa nd ar lv of node ()) := hD
    have hq9 : pX0_ofNode_st r0 r1 r2 r3 r4 r5 r6 row rs tg st ln pa nd ar lv of node ((-1)) () := (if_neg (by assumption)).symm
    exact W.iret (v := (-1)) hx hb hr (fun t ht hW => ⟨⟨(-1), (), rfl, hq9, by rw [ht]; exact hP9, va_K.moved hW.alike hK, hD9⟩, hS.F ht⟩) hS.2.2 dX0_ofNode_15
  · refine lv_aload_n hx hb dX0_ofNode_8 rfl (lv_at hl 1 rfl) ?_
    refine lv_iload_n hx hb dX0_ofNode_9 rfl (lv_at hl 2 rfl) ?_
    have hq := ‹isNd nd node›
    have hnl := cl_lt hq.1 (by omega) hq.2
    refine hl_top (cl_of hq.1) ?_
    refine hl_iald hx hb hK hP 3 0 rfl rfl (by omega) (by decide) dX0_ofNode_10 ?_
    refine lv_goto (tgt := 15) hx hb dX0_ofNode_11 (by decide) ?_
    have hP9 : va_P (dC, dI) vwCl (vX0_ofNode_st cA r0 r1 r2 r3 r4 r5 r6 row rs tg st ln pa nd ar lv of node ()) _ := hP
    have hD9 : va_D A (vX0_ofNode_st cA r0 r1 r2 r3 r4 r5 r6 row rs tg st ln pa nd ar lv of node ()) := hD
    have hq9 : pX0_ofNode_st r0 r1 r2 r3 r4 r5 r6 row rs tg st ln pa nd ar lv of node (nI (st node.toNatClampNeg)) () := (if_pos (by assumption)).symm
    exact W.iret (v := nI (st node.toNatClampNeg)) hx hb hr (fun t ht hW => ⟨⟨nI (st node.toNatClampNeg), (), rfl, hq9, by rw [ht]; exact hP9, va_K.moved hW.alike hK, hD9⟩, hS.F ht⟩) hS.2.2 dX0_ofNode_15
abbrev pX0_ofNode_ln (r0 : Nat) (r1 : Nat) (r2 : Nat) (r3 : Nat) (r4 : Nat) (r5 : Nat) (r6 : Nat) (row : Nat → Nat) (rs : Nat) (tg : Nat → Nat) (st : Nat → Nat) (ln : Nat → Nat) (pa : Nat → Int32) (nd : Nat) (ar : Nat → Nat) (lv : Nat) (of : Int32) (node : Int32) : Int32 → Unit → Prop := fun (r : Int32) (u : Unit) => r = if isNd nd node then nI (ln node.toNatClampNeg) else -1
abbrev vX0_ofNode_ln (cA : ClassId) (r0 : Nat) (r1 : Nat) (r2 : Nat) (r3 : Nat) (r4 : Nat) (r5 : Nat) (r6 : Nat) (row : Nat → Nat) (rs : Nat) (tg : Nat → Nat) (st : Nat → Nat) (ln : Nat → Nat) (pa : Nat → Int32) (nd : Nat) (ar : Nat → Nat) (lv : Nat) (of : Int32) (node : Int32) : Unit → va_W := fun (u : Unit) => wR cA r0 r1 r2 r3 r4 r5 r6 row rs tg st ln pa nd ar lv of
abbrev qX0_ofNode_ln (dC : Nat → ClassId) (dI : Nat → Nat → Nat) (cA : ClassId) (A : Nat → Prop) (r0 : Nat) (r1 : Nat) (r2 : Nat) (r3 : Nat) (r4 : Nat) (r5 : Nat) (r6 : Nat) (row : Nat → Nat) (rs : Nat) (tg : Nat → Nat) (st : Nat → Nat) (ln : Nat → Nat) (pa : Nat → Int32) (nd : Nat) (ar : Nat → Nat) (lv : Nat) (of : Int32) (node : Int32) : Array Value → State → Outcome → State → Prop := va_Qi (pX0_ofNode_ln r0 r1 r2 r3 r4 r5 r6 row rs tg st ln pa nd ar lv of node) (fun u => cAft dC dI cA A (vX0_ofNode_ln cA r0 r1 r2 r3 r4 r5 r6 row rs tg st ln pa nd ar lv of node u)) A
set_option maxHeartbeats 4000000 in
set_option maxRecDepth 100000 in
theorem k_X0_ofNode_ln (l : Launch) (dC : Nat → ClassId) (dI : Nat → Nat → Nat) (cA : ClassId) (r0 : Nat) (r1 : Nat) (r2 : Nat) (r3 : Nat) (r4 : Nat) (r5 : Nat) (r6 : Nat) (row : Nat → Nat) (rs : Nat) (tg : Nat → Nat) (st : Nat → Nat) (ln : Nat → Nat) (pa : Nat → Int32) (nd : Nat) (ar : Nat → Nat) (lv : Nat) (of : Int32) (node : Int32) (sz : Nat) (hnd : nd ≤ 64) : Met l yX0_ofNode wsX0_ofNode ({ frames := 1, cells := 0, slots := 0, locals := 21 } : Room) (va_Pc [.ref r0, .ref r4, .int node] (cPre dC dI cA (wR cA r0 r1 r2 r3 r4 r5 r6 row rs tg st ln pa nd ar lv of) sz)) (qX0_ofNode_ln dC dI cA (va_A (wR cA r0 r1 r2 r3 r4 r5 r6 row rs tg st ln pa nd ar lv of) sz) r0 r1 r2 r3 r4 r5 r6 row rs tg st ln pa nd ar lv of node) 0 0 (va_A (wR cA r0 r1 r2 r3 r4 r5 r6 row rs tg st ln pa nd ar lv of) sz) := by
  refine Met.ofW (cc := cX0_ofNode) (maxL := 3) (ret := (some .int)) (by decide) rfl ?_
  intro p e s m args below meth c s₁ B hml hv
  obtain ⟨rfl, hsz, hP, hK, hD0⟩ := hv
  have hx := B.exec
  have hb := B.bytes
  have hr := B.returns
  have hts := atoms_spec (ws := wsX0_ofNode) B.pre
  have hown : s.vm.findClass RX0 = some m.cls := findClass_of_methodNamed B.named
  have hlocks := B.notSynchronized
  subst hsz
  have hD := hD0.self (sz := s.heap.size)
  generalize hAe : va_A (wR cA r0 r1 r2 r3 r4 r5 r6 row rs tg st ln pa nd ar lv of) s.heap.size = A at hD ⊢
  have hA : ∀ q : Nat, s.heap.size ≤ q → A q := fun q h => by rw [← hAe]; exact Or.inr h
  have hS : va_S A s.heap s.heap [] := va_S.rf
  have hl := lv_entry ([.ref r0, .ref r4, .int node]) (n := 3) (Nat.le_of_ble_eq_true rfl)
  rw [lg_entry_eq]
  generalize (lg_sl ([.ref r0, .ref r4, .int node]) ++ List.replicate (3 - (lg_sl ([.ref r0, .ref r4, .int node])).length) Slot.unset).toArray = ls at hl ⊢
  have hl : lv_has ls 3 [(0, .ref r0), (1, .ref r4), (2, .int node)] := hl
  have hinX0 : ∀ w ∈ wsX00, w ∈ wsX0_ofNode := fun _ h => List.mem_cons_of_mem _ (List.mem_append_right _ h)
  have hP : va_P (dC, dI) vwCl (wR cA r0 r1 r2 r3 r4 r5 r6 row rs tg st ln pa nd ar lv of) s.heap := hP
  refine lv_aload_n hx hb dX0_ofNode_0 rfl (lv_at hl 0 rfl) ?_
  refine lv_iload_n hx hb dX0_ofNode_1 rfl (lv_at hl 2 rfl) ?_
  refine cl_Vi (As := [.int node]) (rest := []) (wr := []) ⟨hx, hb, hml, hown, hts⟩ (k_X0_isNode l dC dI cA r0 r1 r2 r3 r4 r5 r6 row rs tg st ln pa nd ar lv of node _ ) (cwV 1 hts gX0_ofNode_X0_isNode rfl rfl rfl (by decide +kernel) ⟨Nat.le_of_ble_eq_true rfl, Nat.le_of_ble_eq_true rfl⟩) hK hP hD hS hA [0, 1, 2, 3, 4, 5, 6] [] rfl rfl (by decide) (by decide) (by decide) (ci := 0) (q0 := 0) rfl rfl rfl rfl hl.1 rfl (Nat.le_of_ble_eq_true rfl) dX0_ofNode_2 ⟨Nat.le_of_ble_eq_true rfl, Nat.le_of_ble_eq_true rfl⟩ (fun r_1 u_1 H locs hw_1 hP hD hS => ?_)
  have hP : va_P (dC, dI) vwCl (wR cA r0 r1 r2 r3 r4 r5 r6 row rs tg st ln pa nd ar lv of) H := hP
  have hD : va_D A (wR cA r0 r1 r2 r3 r4 r5 r6 row rs tg st ln pa nd ar lv of) := hD
  have hw_1 : r_1 = if isNd nd node then 1 else 0 := hw_1
  have hw_1 := hw_1.symm
  subst hw_1
  refine hl_ifb_eq (tgt := 14) hx hb dX0_ofNode_5 (by decide) (fun c_2 => ?_) (fun c_2 => ?_)
  · refine lv_iconst (v := (-1)) hx hb dX0_ofNode_14 (by decide) ?_
    have hP9 : va_P (dC, dI) vwCl (vX0_ofNode_ln cA r0 r1 r2 r3 r4 r5 r6 row rs tg st ln pa nd ar lv of node ()) _ := hP
    have hD9 : va_D A (vX0_ofNode_ln cA r0 r1 r2 r3 r4 r5 r6 row rs tg st ln pa nd ar lv of node ()) := hD
    have hq9 : pX0_ofNode_ln r0 r1 r2 r3 r4 r5 r6 row rs tg st ln pa nd ar lv of node ((-1)) () := (if_neg (by assumption)).symm
    exact W.iret (v := (-1)) hx hb hr (fun t ht hW => ⟨⟨(-1), (), rfl, hq9, by rw [ht]; exact hP9, va_K.moved hW.alike hK, hD9⟩, hS.F ht⟩) hS.2.2 dX0_ofNode_15
  · refine lv_aload_n hx hb dX0_ofNode_8 rfl (lv_at hl 1 rfl) ?_
    refine lv_iload_n hx hb dX0_ofNode_9 rfl (lv_at hl 2 rfl) ?_
    have hq := ‹isNd nd node›
    have hnl := cl_lt hq.1 (by omega) hq.2
    refine hl_top (cl_of hq.1) ?_
    refine hl_iald hx hb hK hP 4 0 rfl rfl (by omega) (by decide) dX0_ofNode_10 ?_
    refine lv_goto (tgt := 15) hx hb dX0_ofNode_11 (by decide) ?_
    have hP9 : va_P (dC, dI) vwCl (vX0_ofNode_ln cA r0 r1 r2 r3 r4 r5 r6 row rs tg st ln pa nd ar lv of node ()) _ := hP
    have hD9 : va_D A (vX0_ofNode_ln cA r0 r1 r2 r3 r4 r5 r6 row rs tg st ln pa nd ar lv of node ()) := hD
    have hq9 : pX0_ofNode_ln r0 r1 r2 r3 r4 r5 r6 row rs tg st ln pa nd ar lv of node (nI (ln node.toNatClampNeg)) () := (if_pos (by assumption)).symm
    exact W.iret (v := nI (ln node.toNatClampNeg)) hx hb hr (fun t ht hW => ⟨⟨nI (ln node.toNatClampNeg), (), rfl, hq9, by rw [ht]; exact hP9, va_K.moved hW.alike hK, hD9⟩, hS.F ht⟩) hS.2.2 dX0_ofNode_15
abbrev pX0_ofNode_pa (r0 : Nat) (r1 : Nat) (r2 : Nat) (r3 : Nat) (r4 : Nat) (r5 : Nat) (r6 : Nat) (row : Nat → Nat) (rs : Nat) (tg : Nat → Nat) (st : Nat → Nat) (ln : Nat → Nat) (pa : Nat → Int32) (nd : Nat) (ar : Nat → Nat) (lv : Nat) (of : Int32) (node : Int32) : Int32 → Unit → Prop := fun (r : Int32) (u : Unit) => r = if isNd nd node then pa node.toNatClampNeg else -1
abbrev vX0_ofNode_pa (cA : ClassId) (r0 : Nat) (r1 : Nat) (r2 : Nat) (r3 : Nat) (r4 : Nat) (r5 : Nat) (r6 : Nat) (row : Nat → Nat) (rs : Nat) (tg : Nat → Nat) (st : Nat → Nat) (ln : Nat → Nat) (pa : Nat → Int32) (nd : Nat) (ar : Nat → Nat) (lv : Nat) (of : Int32) (node : Int32) : Unit → va_W := fun (u : Unit) => wR cA r0 r1 r2 r3 r4 r5 r6 row rs tg st ln pa nd ar lv of
abbrev qX0_ofNode_pa (dC : Nat → ClassId) (dI : Nat → Nat → Nat) (cA : ClassId) (A : Nat → Prop) (r0 : Nat) (r1 : Nat) (r2 : Nat) (r3 : Nat) (r4 : Nat) (r5 : Nat) (r6 : Nat) (row : Nat → Nat) (rs : Nat) (tg : Nat → Nat) (st : Nat → Nat) (ln : Nat → Nat) (pa : Nat → Int32) (nd : Nat) (ar : Nat → Nat) (lv : Nat) (of : Int32) (node : Int32) : Array Value → State → Outcome → State → Prop := va_Qi (pX0_ofNode_pa r0 r1 r2 r3 r4 r5 r6 row rs tg st ln pa nd ar lv of node) (fun u => cAft dC dI cA A (vX0_ofNode_pa cA r0 r1 r2 r3 r4 r5 r6 row rs tg st ln pa nd ar lv of node u)) A
set_option maxHeartbeats 4000000 in
set_option maxRecDepth 100000 in
theorem k_X0_ofNode_pa (l : Launch) (dC : Nat → ClassId) (dI : Nat → Nat → Nat) (cA : ClassId) (r0 : Nat) (r1 : Nat) (r2 : Nat) (r3 : Nat) (r4 : Nat) (r5 : Nat) (r6 : Nat) (row : Nat → Nat) (rs : Nat) (tg : Nat → Nat) (st : Nat → Nat) (ln : Nat → Nat) (pa : Nat → Int32) (nd : Nat) (ar : Nat → Nat) (lv : Nat) (of : Int32) (node : Int32) (sz : Nat) (hnd : nd ≤ 64) : Met l yX0_ofNode wsX0_ofNode ({ frames := 1, cells := 0, slots := 0, locals := 21 } : Room) (va_Pc [.ref r0, .ref r5, .int node] (cPre dC dI cA (wR cA r0 r1 r2 r3 r4 r5 r6 row rs tg st ln pa nd ar lv of) sz)) (qX0_ofNode_pa dC dI cA (va_A (wR cA r0 r1 r2 r3 r4 r5 r6 row rs tg st ln pa nd ar lv of) sz) r0 r1 r2 r3 r4 r5 r6 row rs tg st ln pa nd ar lv of node) 0 0 (va_A (wR cA r0 r1 r2 r3 r4 r5 r6 row rs tg st ln pa nd ar lv of) sz) := by
  refine Met.ofW (cc := cX0_ofNode) (maxL := 3) (ret := (some .int)) (by decide) rfl ?_
  intro p e s m args below meth c s₁ B hml hv
  obtain ⟨rfl, hsz, hP, hK, hD0⟩ := hv
  have hx := B.exec
  have hb := B.bytes
  have hr := B.returns
  have hts := atoms_spec (ws := wsX0_ofNode) B.pre
  have hown : s.vm.findClass RX0 = some m.cls := findClass_of_methodNamed B.named
  have hlocks := B.notSynchronized
  subst hsz
  have hD := hD0.self (sz := s.heap.size)
  generalize hAe : va_A (wR cA r0 r1 r2 r3 r4 r5 r6 row rs tg st ln pa nd ar lv of) s.heap.size = A at hD ⊢
  have hA : ∀ q : Nat, s.heap.size ≤ q → A q := fun q h => by rw [← hAe]; exact Or.inr h
  have hS : va_S A s.heap s.heap [] := va_S.rf
  have hl := lv_entry ([.ref r0, .ref r5, .int node]) (n := 3) (Nat.le_of_ble_eq_true rfl)
  rw [lg_entry_eq]
  generalize (lg_sl ([.ref r0, .ref r5, .int node]) ++ List.replicate (3 - (lg_sl ([.ref r0, .ref r5, .int node])).length) Slot.unset).toArray = ls at hl ⊢
  have hl : lv_has ls 3 [(0, .ref r0), (1, .ref r5), (2, .int node)] := hl
  have hinX0 : ∀ w ∈ wsX00, w ∈ wsX0_ofNode := fun _ h => List.mem_cons_of_mem _ (List.mem_append_right _ h)
  have hP : va_P (dC, dI) vwCl (wR cA r0 r1 r2 r3 r4 r5 r6 row rs tg st ln pa nd ar lv of) s.heap := hP
  refine lv_aload_n hx hb dX0_ofNode_0 rfl (lv_at hl 0 rfl) ?_
  refine lv_iload_n hx hb dX0_ofNode_1 rfl (lv_at hl 2 rfl) ?_
  refine cl_Vi (As := [.int node]) (rest := []) (wr := []) ⟨hx, hb, hml, hown, hts⟩ (k_X0_isNode l dC dI cA r0 r1 r2 r3 r4 r5 r6 row rs tg st ln pa nd ar lv of node _ ) (cwV 1 hts gX0_ofNode_X0_isNode rfl rfl rfl (by decide +kernel) ⟨Nat.le_of_ble_eq_true rfl, Nat.le_of_ble_eq_true rfl⟩) hK hP hD hS hA [0, 1, 2, 3, 4, 5, 6] [] rfl rfl (by decide) (by decide) (by decide) (ci := 0) (q0 := 0) rfl rfl rfl rfl hl.1 rfl (Nat.le_of_ble_eq_true rfl) dX0_ofNode_2 ⟨Nat.le_of_ble_eq_true rfl, Nat.le_of_ble_eq_true rfl⟩ (fun r_1 u_1 H locs hw_1 hP hD hS => ?_)
  have hP : va_P (dC, dI) vwCl (wR cA r0 r1 r2 r3 r4 r5 r6 row rs tg st ln pa nd ar lv of) H := hP
  have hD : va_D A (wR cA r0 r1 r2 r3 r4 r5 r6 row rs tg st ln pa nd ar lv of) := hD
  have hw_1 : r_1 = if isNd nd node then 1 else 0 := hw_1
  have hw_1 := hw_1.symm
  subst hw_1
  refine hl_ifb_eq (tgt := 14) hx hb dX0_ofNode_5 (by decide) (fun c_2 => ?_) (fun c_2 => ?_)
  · refine lv_iconst (v := (-1)) hx hb dX0_ofNode_14 (by decide) ?_
    have hP9 : va_P (dC, dI) vwCl (vX0_ofNode_pa cA r0 r1 r2 r3 r4 r5 r6 row rs tg st ln pa nd ar lv of node ()) _ := hP
    have hD9 : va_D A (vX0_ofNode_pa cA r0 r1 r2 r3 r4 r5 r6 row rs tg st ln pa nd ar lv of node ()) := hD
    have hq9 : pX0_ofNode_pa r0 r1 r2 r3 r4 r5 r6 row rs tg st ln pa nd ar lv of node ((-1)) () := (if_neg (by assumption)).symm
    exact W.iret (v := (-1)) hx hb hr (fun t ht hW => ⟨⟨(-1), (), rfl, hq9, by rw [ht]; exact hP9, va_K.moved hW.alike hK, hD9⟩, hS.F ht⟩) hS.2.2 dX0_ofNode_15
  · refine lv_aload_n hx hb dX0_ofNode_8 rfl (lv_at hl 1 rfl) ?_
    refine lv_iload_n hx hb dX0_ofNode_9 rfl (lv_at hl 2 rfl) ?_
    have hq := ‹isNd nd node›
    have hnl := cl_lt hq.1 (by omega) hq.2
    refine hl_top (cl_of hq.1) ?_
    refine hl_ialdI hx hb hK hP 5 0 rfl rfl (by omega) (by decide) dX0_ofNode_10 ?_
    refine lv_goto (tgt := 15) hx hb dX0_ofNode_11 (by decide) ?_
    have hP9 : va_P (dC, dI) vwCl (vX0_ofNode_pa cA r0 r1 r2 r3 r4 r5 r6 row rs tg st ln pa nd ar lv of node ()) _ := hP
    have hD9 : va_D A (vX0_ofNode_pa cA r0 r1 r2 r3 r4 r5 r6 row rs tg st ln pa nd ar lv of node ()) := hD
    have hq9 : pX0_ofNode_pa r0 r1 r2 r3 r4 r5 r6 row rs tg st ln pa nd ar lv of node ((pa node.toNatClampNeg)) () := (if_pos (by assumption)).symm
    exact W.iret (v := (pa node.toNatClampNeg)) hx hb hr (fun t ht hW => ⟨⟨(pa node.toNatClampNeg), (), rfl, hq9, by rw [ht]; exact hP9, va_K.moved hW.alike hK, hD9⟩, hS.F ht⟩) hS.2.2 dX0_ofNode_15
abbrev pX0_isSmallInteger (r0 : Nat) (r1 : Nat) (r2 : Nat) (r3 : Nat) (r4 : Nat) (r5 : Nat) (r6 : Nat) (row : Nat → Nat) (rs : Nat) (tg : Nat → Nat) (st : Nat → Nat) (ln : Nat → Nat) (pa : Nat → Int32) (nd : Nat) (ar : Nat → Nat) (lv : Nat) (of : Int32) (node : Int32) : Int32 → Unit → Prop := fun (r : Int32) (u : Unit) => r = if isSm nd tg ln node then 1 else 0
abbrev vX0_isSmallInteger (cA : ClassId) (r0 : Nat) (r1 : Nat) (r2 : Nat) (r3 : Nat) (r4 : Nat) (r5 : Nat) (r6 : Nat) (row : Nat → Nat) (rs : Nat) (tg : Nat → Nat) (st : Nat → Nat) (ln : Nat → Nat) (pa : Nat → Int32) (nd : Nat) (ar : Nat → Nat) (lv : Nat) (of : Int32) (node : Int32) : Unit → va_W := fun (u : Unit) => wR cA r0 r1 r2 r3 r4 r5 r6 row rs tg st ln pa nd ar lv of
abbrev qX0_isSmallInteger (dC : Nat → ClassId) (dI : Nat → Nat → Nat) (cA : ClassId) (A : Nat → Prop) (r0 : Nat) (r1 : Nat) (r2 : Nat) (r3 : Nat) (r4 : Nat) (r5 : Nat) (r6 : Nat) (row : Nat → Nat) (rs : Nat) (tg : Nat → Nat) (st : Nat → Nat) (ln : Nat → Nat) (pa : Nat → Int32) (nd : Nat) (ar : Nat → Nat) (lv : Nat) (of : Int32) (node : Int32) : Array Value → State → Outcome → State → Prop := va_Qi (pX0_isSmallInteger r0 r1 r2 r3 r4 r5 r6 row rs tg st ln pa nd ar lv of node) (fun u => cAft dC dI cA A (vX0_isSmallInteger cA r0 r1 r2 r3 r4 r5 r6 row rs tg st ln pa nd ar lv of node u)) A
set_option maxHeartbeats 4000000 in
set_option maxRecDepth 100000 in
theorem k_X0_isSmallInteger (l : Launch) (dC : Nat → ClassId) (dI : Nat → Nat → Nat) (cA : ClassId) (r0 : Nat) (r1 : Nat) (r2 : Nat) (r3 : Nat) (r4 : Nat) (r5 : Nat) (r6 : Nat) (row : Nat → Nat) (rs : Nat) (tg : Nat → Nat) (st : Nat → Nat) (ln : Nat → Nat) (pa : Nat → Int32) (nd : Nat) (ar : Nat → Nat) (lv : Nat) (of : Int32) (node : Int32) (sz : Nat) (hnd : nd ≤ 64) (htg : ∀ j, tg j < 256) (hln : ∀ j, ln j < 65536) : Met l yX0_isSmallInteger wsX0_isSmallInteger ({ frames := 1, cells := 0, slots := 0, locals := 21 } : Room) (va_Pc [.ref r0, .int node] (cPre dC dI cA (wR cA r0 r1 r2 r3 r4 r5 r6 row rs tg st ln pa nd ar lv of) sz)) (qX0_isSmallInteger dC dI cA (va_A (wR cA r0 r1 r2 r3 r4 r5 r6 row rs tg st ln pa nd ar lv of) sz) r0 r1 r2 r3 r4 r5 r6 row rs tg st ln pa nd ar lv of node) 0 0 (va_A (wR cA r0 r1 r2 r3 r4 r5 r6 row rs tg st ln pa nd ar lv of) sz) := by
  refine Met.ofW (cc := cX0_isSmallInteger) (maxL := 2) (ret := (some .boolean)) (by decide) rfl ?_
  intro p e s m args below meth c s₁ B hml hv
  obtain ⟨rfl, hsz, hP, hK, hD0⟩ := hv
  have hx := B.exec
  have hb := B.bytes
  have hr := B.returns
  have hts := atoms_spec (ws := wsX0_isSmallInteger) B.pre
  have hown : s.vm.findClass RX0 = some m.cls := findClass_of_methodNamed B.named
  have hlocks := B.notSynchronized
  subst hsz
  have hD := hD0.self (sz := s.heap.size)
  generalize hAe : va_A (wR cA r0 r1 r2 r3 r4 r5 r6 row rs tg st ln pa nd ar lv of) s.heap.size = A at hD ⊢
  have hA : ∀ q : Nat, s.heap.size ≤ q → A q := fun q h => by rw [← hAe]; exact Or.inr h
  have hS : va_S A s.heap s.heap [] := va_S.rf
  have hl := lv_entry ([.ref r0, .int node]) (n := 2) (Nat.le_of_ble_eq_true rfl)
  rw [lg_entry_eq]
  generalize (lg_sl ([.ref r0, .int node]) ++ List.replicate (2 - (lg_sl ([.ref r0, .int node])).length) Slot.unset).toArray = ls at hl ⊢
  have hl : lv_has ls 2 [(0, .ref r0), (1, .int node)] := hl
  have hinX0 : ∀ w ∈ wsX00, w ∈ wsX0_isSmallInteger := fun _ h => List.mem_cons_of_mem _ (List.mem_append_right _ h)
  have hf_19 := hts (.fieldLink RX0 19 "DerDesk$Reader" "tags" "[I") (by decide +kernel)
  have hf_25 := hts (.fieldLink RX0 25 "DerDesk$Reader" "lengths" "[I") (by decide +kernel)
  have hP : va_P (dC, dI) vwCl (wR cA r0 r1 r2 r3 r4 r5 r6 row rs tg st ln pa nd ar lv of) s.heap := hP
  refine lv_aload_n hx hb dX0_isSmallInteger_0 rfl (lv_at hl 0 rfl) ?_
  refine lv_iload_n hx hb dX0_isSmallInteger_1 rfl (lv_at hl 1 rfl) ?_
  refine cl_Vi (As := [.int node]) (rest := []) (wr := []) ⟨hx, hb, hml, hown, hts⟩ (k_X0_isNode l dC dI cA r0 r1 r2 r3 r4 r5 r6 row rs tg st ln pa nd ar lv of node _ ) (cwV 1 hts gX0_isSmallInteger_X0_isNode rfl rfl rfl (by decide +kernel) ⟨Nat.le_of_ble_eq_true rfl, Nat.le_of_ble_eq_true rfl⟩) hK hP hD hS hA [0, 1, 2, 3, 4, 5, 6] [] rfl rfl (by decide) (by decide) (by decide) (ci := 0) (q0 := 0) rfl rfl rfl rfl hl.1 rfl (Nat.le_of_ble_eq_true rfl) dX0_isSmallInteger_2 ⟨Nat.le_of_ble_eq_true rfl, Nat.le_of_ble_eq_true rfl⟩ (fun r_1 u_1 H locs hw_1 hP hD hS => ?_)
  have hP : va_P (dC, dI) vwCl (wR cA r0 r1 r2 r3 r4 r5 r6 row rs tg st ln pa nd ar lv of) H := hP
  have hD : va_D A (wR cA r0 r1 r2 r3 r4 r5 r6 row rs tg st ln pa nd ar lv of) := hD
  have hw_1 : r_1 = if isNd nd node then 1 else 0 := hw_1
  have hw_1 := hw_1.symm
  subst hw_1
  refine hl_ifb_eq (tgt := 32) hx hb dX0_isSmallInteger_5 (by decide) (fun c_2 => ?_) (fun c_2 => ?_)
  · refine lv_iconst (v := nI 0) hx hb dX0_isSmallInteger_32 (by decide) ?_
    have hP9 : va_P (dC, dI) vwCl (vX0_isSmallInteger cA r0 r1 r2 r3 r4 r5 r6 row rs tg st ln pa nd ar lv of node ()) _ := hP
    have hD9 : va_D A (vX0_isSmallInteger cA r0 r1 r2 r3 r4 r5 r6 row rs tg st ln pa nd ar lv of node ()) := hD
    have hq9 : pX0_isSmallInteger r0 r1 r2 r3 r4 r5 r6 row rs tg st ln pa nd ar lv of node (nI 0) () := (if_neg (by unfold isSm; first | exact ⟨hq.1, hq.2, by assumption, by omega⟩ | (intro h; omega) | grind)).symm
    exact W.zret (v := nI 0) hx hb hr rfl (fun t ht hW => ⟨⟨nI 0, (), rfl, hq9, by rw [ht]; exact hP9, va_K.moved hW.alike hK, hD9⟩, hS.F ht⟩) hS.2.2 dX0_isSmallInteger_33
  · refine lv_aload_n hx hb dX0_isSmallInteger_8 rfl (lv_at hl 0 rfl) ?_
    refine va_get (D := (dC, dI)) (ci := 0) (v := .ref r2) (C := RX0) (T := TX0) (N := 10) hx hb hts hinX0 hown hK hP 0 rfl rfl 2 (by decide) hf_19 (fun _ h9 => h9) rfl dX0_isSmallInteger_9 ?_
    refine lv_iload_n hx hb dX0_isSmallInteger_12 rfl (lv_at hl 1 rfl) ?_
    have hq := ‹isNd nd node›
    have hnl := cl_lt hq.1 (by omega) hq.2
    refine hl_top (cl_of hq.1) ?_
    refine hl_iald hx hb hK hP 2 0 rfl rfl (by omega) (by decide) dX0_isSmallInteger_13 ?_
    have hv_3 := htg node.toNatClampNeg
    refine lv_iconst (v := nI 2) hx hb dX0_isSmallInteger_14 (by decide) ?_
    refine hl_icmp_ne (tgt := 32) hx hb dX0_isSmallInteger_15 (by decide) (by omega) (by omega) (fun c_4 => ?_) (fun c_4 => ?_)
    · refine lv_iconst (v := nI 0) hx hb dX0_isSmallInteger_32 (by decide) ?_
      have hP9 : va_P (dC, dI) vwCl (vX0_isSmallInteger cA r0 r1 r2 r3 r4 r5 r6 row rs tg st ln pa nd ar lv of node ()) _ := hP
      have hD9 : va_D A (vX0_isSmallInteger cA r0 r1 r2 r3 r4 r5 r6 row rs tg st ln pa nd ar lv of node ()) := hD
      have hq9 : pX0_isSmallInteger r0 r1 r2 r3 r4 r5 r6 row rs tg st ln pa nd ar lv of node (nI 0) () := (if_neg (by unfold isSm; first | exact ⟨hq.1, hq.2, by assumption, by omega⟩ | (intro h; omega) | grind)).symm
      exact W.zret (v := nI 0) hx hb hr rfl (fun t ht hW => ⟨⟨nI 0, (), rfl, hq9, by rw [ht]; exact hP9, va_K.moved hW.alike hK, hD9⟩, hS.F ht⟩) hS.2.2 dX0_isSmallInteger_33
    · refine lv_aload_n hx hb dX0_isSmallInteger_18 rfl (lv_at hl 0 rfl) ?_
      refine va_get (D := (dC, dI)) (ci := 0) (v := .ref r4) (C := RX0) (T := TX0) (N := 10) hx hb hts hinX0 hown hK hP 0 rfl rfl 4 (by decide) hf_25 (fun _ h9 => h9) rfl dX0_isSmallInteger_19 ?_
      refine lv_iload_n hx hb dX0_isSmallInteger_22 rfl (lv_at hl 1 rfl) ?_
      refine hl_top (cl_of hq.1) ?_
      refine hl_iald hx hb hK hP 4 0 rfl rfl (by omega) (by decide) dX0_isSmallInteger_23 ?_
      have hv_5 := hln node.toNatClampNeg
      refine lv_iconst (v := nI 4) hx hb dX0_isSmallInteger_24 (by decide) ?_
      refine hl_icmp_gt (tgt := 32) hx hb dX0_isSmallInteger_25 (by decide) (by omega) (by omega) (fun c_6 => ?_) (fun c_6 => ?_)
      · refine lv_iconst (v := nI 0) hx hb dX0_isSmallInteger_32 (by decide) ?_
        have hP9 : va_P (dC, dI) vwCl (vX0_isSmallInteger cA r0 r1 r2 r3 r4 r5 r6 row rs tg st ln pa nd ar lv of node ()) _ := hP
        have hD9 : va_D A (vX0_isSmallInteger cA r0 r1 r2 r3 r4 r5 r6 row rs tg st ln pa nd ar lv of node ()) := hD
        have hq9 : pX0_isSmallInteger r0 r1 r2 r3 r4 r5 r6 row rs tg st ln pa nd ar lv of node (nI 0) () := (if_neg (by unfold isSm; first | exact ⟨hq.1, hq.2, by assumption, by omega⟩ | (intro h; omega) | grind)).symm
        exact W.zret (v := nI 0) hx hb hr rfl (fun t ht hW => ⟨⟨nI 0, (), rfl, hq9, by rw [ht]; exact hP9, va_K.moved hW.alike hK, hD9⟩, hS.F ht⟩) hS.2.2 dX0_isSmallInteger_33
      · refine lv_iconst (v := nI 1) hx hb dX0_isSmallInteger_28 (by decide) ?_
        refine lv_goto (tgt := 33) hx hb dX0_isSmallInteger_29 (by decide) ?_
        have hP9 : va_P (dC, dI) vwCl (vX0_isSmallInteger cA r0 r1 r2 r3 r4 r5 r6 row rs tg st ln pa nd ar lv of node ()) _ := hP
        have hD9 : va_D A (vX0_isSmallInteger cA r0 r1 r2 r3 r4 r5 r6 row rs tg st ln pa nd ar lv of node ()) := hD
        have hq9 : pX0_isSmallInteger r0 r1 r2 r3 r4 r5 r6 row rs tg st ln pa nd ar lv of node (nI 1) () := (if_pos (by unfold isSm; first | exact ⟨hq.1, hq.2, by assumption, by omega⟩ | (intro h; omega) | grind)).symm
        exact W.zret (v := nI 1) hx hb hr rfl (fun t ht hW => ⟨⟨nI 1, (), rfl, hq9, by rw [ht]; exact hP9, va_K.moved hW.alike hK, hD9⟩, hS.F ht⟩) hS.2.2 dX0_isSmallInteger_33
abbrev pX0_numberAt (r0 : Nat) (r1 : Nat) (r2 : Nat) (r3 : Nat) (r4 : Nat) (r5 : Nat) (r6 : Nat) (row : Nat → Nat) (rs : Nat) (tg : Nat → Nat) (st : Nat → Nat) (ln : Nat → Nat) (pa : Nat → Int32) (nd : Nat) (ar : Nat → Nat) (lv : Nat) (of : Int32) (pl : Nat) (cnt : Nat) : Int32 → Unit → Prop := fun (r : Int32) (u : Unit) => r = nI (numN row pl cnt)
abbrev vX0_numberAt (cA : ClassId) (r0 : Nat) (r1 : Nat) (r2 : Nat) (r3 : Nat) (r4 : Nat) (r5 : Nat) (r6 : Nat) (row : Nat → Nat) (rs : Nat) (tg : Nat → Nat) (st : Nat → Nat) (ln : Nat → Nat) (pa : Nat → Int32) (nd : Nat) (ar : Nat → Nat) (lv : Nat) (of : Int32) (pl : Nat) (cnt : Nat) : Unit → va_W := fun (u : Unit) => wR cA r0 r1 r2 r3 r4 r5 r6 row rs tg st ln pa nd ar lv of
abbrev qX0_numberAt (dC : Nat → ClassId) (dI : Nat → Nat → Nat) (cA : ClassId) (A : Nat → Prop) (r0 : Nat) (r1 : Nat) (r2 : Nat) (r3 : Nat) (r4 : Nat) (r5 : Nat) (r6 : Nat) (row : Nat → Nat) (rs : Nat) (tg : Nat → Nat) (st : Nat → Nat) (ln : Nat → Nat) (pa : Nat → Int32) (nd : Nat) (ar : Nat → Nat) (lv : Nat) (of : Int32) (pl : Nat) (cnt : Nat) : Array Value → State → Outcome → State → Prop := va_Qi (pX0_numberAt r0 r1 r2 r3 r4 r5 r6 row rs tg st ln pa nd ar lv of pl cnt) (fun u => cAft dC dI cA A (vX0_numberAt cA r0 r1 r2 r3 r4 r5 r6 row rs tg st ln pa nd ar lv of pl cnt u)) A
set_option maxHeartbeats 4000000 in
set_option maxRecDepth 100000 in
theorem k_X0_numberAt (l : Launch) (dC : Nat → ClassId) (dI : Nat → Nat → Nat) (cA : ClassId) (r0 : Nat) (r1 : Nat) (r2 : Nat) (r3 : Nat) (r4 : Nat) (r5 : Nat) (r6 : Nat) (row : Nat → Nat) (rs : Nat) (tg : Nat → Nat) (st : Nat → Nat) (ln : Nat → Nat) (pa : Nat → Int32) (nd : Nat) (ar : Nat → Nat) (lv : Nat) (of : Int32) (pl : Nat) (cnt : Nat) (sz : Nat) (hrow : ∀ j, row j < 256) (hcnt : cnt ≤ 4) (hpc : pl + cnt ≤ 300) : Met l yX0_numberAt wsX0_numberAt ({ frames := 0, cells := 0, slots := 0, locals := 0 } : Room) (va_Pc [.ref r0, .int (nI pl), .int (nI cnt)] (cPre dC dI cA (wR cA r0 r1 r2 r3 r4 r5 r6 row rs tg st ln pa nd ar lv of) sz)) (qX0_numberAt dC dI cA (va_A (wR cA r0 r1 r2 r3 r4 r5 r6 row rs tg st ln pa nd ar lv of) sz) r0 r1 r2 r3 r4 r5 r6 row rs tg st ln pa nd ar lv of pl cnt) 0 0 (va_A (wR cA r0 r1 r2 r3 r4 r5 r6 row rs tg st ln pa nd ar lv of) sz) := by
  refine Met.ofW (cc := cX0_numberAt) (maxL := 5) (ret := (some .int)) (by decide) rfl ?_
  intro p e s m args below meth c s₁ B hml hv
  obtain ⟨rfl, hsz, hP, hK, hD0⟩ := hv
  have hx := B.exec
  have hb := B.bytes
  have hr := B.returns
  have hts := atoms_spec (ws := wsX0_numberAt) B.pre
  have hown : s.vm.findClass RX0 = some m.cls := findClass_of_methodNamed B.named
  have hlocks := B.notSynchronized
  subst hsz
  have hD := hD0.self (sz := s.heap.size)
  generalize hAe : va_A (wR cA r0 r1 r2 r3 r4 r5 r6 row rs tg st ln pa nd ar lv of) s.heap.size = A at hD ⊢
  have hA : ∀ q : Nat, s.heap.size ≤ q → A q := fun q h => by rw [← hAe]; exact Or.inr h
  have hS : va_S A s.heap s.heap [] := va_S.rf
  have hl := lv_entry ([.ref r0, .int (nI pl), .int (nI cnt)]) (n := 5) (Nat.le_of_ble_eq_true rfl)
  rw [lg_entry_eq]
  generalize (lg_sl ([.ref r0, .int (nI pl), .int (nI cnt)]) ++ List.replicate (5 - (lg_sl ([.ref r0, .int (nI pl), .int (nI cnt)])).length) Slot.unset).toArray = ls at hl ⊢
  have hl : lv_has ls 5 [(0, .ref r0), (1, .int (nI pl)), (2, .int (nI cnt))] := hl
  have hinX0 : ∀ w ∈ wsX00, w ∈ wsX0_numberAt := fun _ h => List.mem_cons_of_mem _ (List.mem_append_right _ h)
  have hf_9 := hts (.fieldLink RX0 9 "DerDesk$Reader" "row" "[I") (by decide +kernel)
  have hP : va_P (dC, dI) vwCl (wR cA r0 r1 r2 r3 r4 r5 r6 row rs tg st ln pa nd ar lv of) s.heap := hP
  refine lv_iconst (v := nI 0) hx hb dX0_numberAt_0 (by decide) ?_
  refine lv_istore_n (lv' := [(3, .int (nI 0)), (0, .ref r0), (1, .int (nI pl)), (2, .int (nI cnt))]) hx hb dX0_numberAt_1 rfl hl (by decide) rfl (fun ls hl => ?_)
  refine lv_iconst (v := nI 0) hx hb dX0_numberAt_2 (by decide) ?_
  refine lv_istore (lv' := [(4, .int (nI 0)), (3, .int (nI 0)), (0, .ref r0), (1, .int (nI pl)), (2, .int (nI cnt))]) hx hb dX0_numberAt_3 hl (by decide) rfl (fun ls hl => ?_)
  have lp_5 : ∀ (nf : Nat) (i : Nat) (nm : Nat), cnt - i < nf → (i ≤ cnt) → (nm = numN row pl i) → ∀ (H : Heap) (locs : List Loc) (ls : Array Slot), va_P (dC, dI) vwCl (wR cA r0 r1 r2 r3 r4 r5 r6 row rs tg st ln pa nd ar lv of) H → va_D A (wR cA r0 r1 r2 r3 r4 r5 r6 row rs tg st ln pa nd ar lv of) → va_S A s.heap H locs → lv_has ls 5 [(4, .int (nI i)), (3, .int (nI nm)), (0, .ref r0), (1, .int (nI pl)), (2, .int (nI cnt))] → W p l e (headSpec wsX0_numberAt ({ frames := 0, cells := 0, slots := 0, locals := 0 } : Room)).room s m ([.ref r0, .int (nI pl), .int (nI cnt)] : List Value).toArray below meth c H locs 0 0 (MQ below (qX0_numberAt dC dI cA A r0 r1 r2 r3 r4 r5 r6 row rs tg st ln pa nd ar lv of pl cnt) ([.ref r0, .int (nI pl), .int (nI cnt)] : List Value).toArray s 0 0 A) (F0 m 5 ls []) := by
    intro nf
    induction nf with
    | zero =>
      intro i nm hm
      exact absurd hm (Nat.not_lt_zero _)
    | succ nf ih_5 =>
      intro i nm hm hi hnm H locs ls hP hD hS hl
      refine lv_iload hx hb dX0_numberAt_5 (lv_at hl 0 rfl) ?_
      refine lv_iload_n hx hb dX0_numberAt_7 rfl (lv_at hl 4 rfl) ?_
      refine hl_icmp_ge (tgt := 32) hx hb dX0_numberAt_8 (by decide) (by omega) (by omega) (fun c_2 => ?_) (fun c_2 => ?_)
      · refine lv_iload_n hx hb dX0_numberAt_32 rfl (lv_at hl 1 rfl) ?_
        have hP9 : va_P (dC, dI) vwCl (vX0_numberAt cA r0 r1 r2 r3 r4 r5 r6 row rs tg st ln pa nd ar lv of pl cnt ()) _ := hP
        have hD9 : va_D A (vX0_numberAt cA r0 r1 r2 r3 r4 r5 r6 row rs tg st ln pa nd ar lv of pl cnt ()) := hD
        have hq9 : pX0_numberAt r0 r1 r2 r3 r4 r5 r6 row rs tg st ln pa nd ar lv of pl cnt (nI nm) () := by have ei : i = cnt := (by omega); rw [hnm, ei]
        exact W.iret (v := nI nm) hx hb hr (fun t ht hW => ⟨⟨nI nm, (), rfl, hq9, by rw [ht]; exact hP9, va_K.moved hW.alike hK, hD9⟩, hS.F ht⟩) hS.2.2 dX0_numberAt_33
      · refine lv_iload_n hx hb dX0_numberAt_11 rfl (lv_at hl 1 rfl) ?_
        refine lv_bipush (v := nI 8) hx hb dX0_numberAt_12 (by decide) ?_
        refine lv_ishl hx hb dX0_numberAt_14 ?_
        refine lv_aload_n hx hb dX0_numberAt_15 rfl (lv_at hl 2 rfl) ?_
        refine va_get (D := (dC, dI)) (ci := 0) (v := .ref r1) (C := RX0) (T := TX0) (N := 10) hx hb hts hinX0 hown hK hP 0 rfl rfl 0 (by decide) hf_9 (fun _ h9 => h9) rfl dX0_numberAt_16 ?_
        refine lv_iload_n hx hb dX0_numberAt_19 rfl (lv_at hl 3 rfl) ?_
        refine lv_iload hx hb dX0_numberAt_20 (lv_at hl 0 rfl) ?_
        refine hl_iadd hx hb dX0_numberAt_22 ?_
        refine hl_iald hx hb hK hP 1 0 rfl rfl (by omega) (by decide) dX0_numberAt_23 ?_
        have hv_3 := hrow (pl + i)
        refine lv_ior hx hb dX0_numberAt_24 ?_
        have h24 := num24 hrow (p := pl) (k := i) (by omega)
        rw [← hnm] at h24
        refine hl_top (num_step (a := nm) (b := row (pl + i)) (by omega) (hrow _)) ?_
        refine lv_istore_n (lv' := [(3, .int (nI (nm * 256 + row (pl + i)))), (4, .int (nI i)), (0, .ref r0), (1, .int (nI pl)), (2, .int (nI cnt))]) hx hb dX0_numberAt_25 rfl hl (by decide) rfl (fun ls hl => ?_)
        refine lv_iinc (v := (nI (i + 1))) (lv' := [(4, .int (nI (i + 1))), (3, .int (nI (nm * 256 + row (pl + i)))), (0, .ref r0), (1, .int (nI pl)), (2, .int (nI cnt))]) hx hb dX0_numberAt_26 hl (k := 1) rfl (nI_inc i 1) (by decide) rfl (fun ls hl => ?_)
        refine lv_goto (tgt := 5) hx hb dX0_numberAt_29 (by decide) ?_
        exact ih_5 (i + 1) (nm * 256 + row (pl + i)) (by omega) (by omega) (by rw [hnm]; rfl) _ _ _ hP hD hS (lv_sub hl [0, 1, 2, 3, 4] rfl)
  exact lp_5 (cnt - 0 + 1) 0 0 (Nat.lt_succ_self _) (by omega) rfl _ _ _ hP hD hS (lv_sub hl [0, 1, 2, 3, 4] rfl)
abbrev pX0_smallInteger (r0 : Nat) (r1 : Nat) (r2 : Nat) (r3 : Nat) (r4 : Nat) (r5 : Nat) (r6 : Nat) (row : Nat → Nat) (rs : Nat) (tg : Nat → Nat) (st : Nat → Nat) (ln : Nat → Nat) (pa : Nat → Int32) (nd : Nat) (ar : Nat → Nat) (lv : Nat) (of : Int32) (node : Int32) : Int32 → Unit → Prop := fun (r : Int32) (u : Unit) => r = if isSm nd tg ln node then siVal row (st node.toNatClampNeg) (ln node.toNatClampNeg) else 0
abbrev vX0_smallInteger (cA : ClassId) (r0 : Nat) (r1 : Nat) (r2 : Nat) (r3 : Nat) (r4 : Nat) (r5 : Nat) (r6 : Nat) (row : Nat → Nat) (rs : Nat) (tg : Nat → Nat) (st : Nat → Nat) (ln : Nat → Nat) (pa : Nat → Int32) (nd : Nat) (ar : Nat → Nat) (lv : Nat) (of : Int32) (node : Int32) : Unit → va_W := fun (u : Unit) => wR cA r0 r1 r2 r3 r4 r5 r6 row rs tg st ln pa nd ar lv of
abbrev qX0_smallInteger (dC : Nat → ClassId) (dI : Nat → Nat → Nat) (cA : ClassId) (A : Nat → Prop) (r0 : Nat) (r1 : Nat) (r2 : Nat) (r3 : Nat) (r4 : Nat) (r5 : Nat) (r6 : Nat) (row : Nat → Nat) (rs : Nat) (tg : Nat → Nat) (st : Nat → Nat) (ln : Nat → Nat) (pa : Nat → Int32) (nd : Nat) (ar : Nat → Nat) (lv : Nat) (of : Int32) (node : Int32) : Array Value → State → Outcome → State → Prop := va_Qi (pX0_smallInteger r0 r1 r2 r3 r4 r5 r6 row rs tg st ln pa nd ar lv of node) (fun u => cAft dC dI cA A (vX0_smallInteger cA r0 r1 r2 r3 r4 r5 r6 row rs tg st ln pa nd ar lv of node u)) A
set_option maxHeartbeats 4000000 in
set_option maxRecDepth 100000 in
theorem k_X0_smallInteger (l : Launch) (dC : Nat → ClassId) (dI : Nat → Nat → Nat) (cA : ClassId) (r0 : Nat) (r1 : Nat) (r2 : Nat) (r3 : Nat) (r4 : Nat) (r5 : Nat) (r6 : Nat) (row : Nat → Nat) (rs : Nat) (tg : Nat → Nat) (st : Nat → Nat) (ln : Nat → Nat) (pa : Nat → Int32) (nd : Nat) (ar : Nat → Nat) (lv : Nat) (of : Int32) (node : Int32) (sz : Nat) (hnd : nd ≤ 64) (hrow : ∀ j, row j < 256) (htg : ∀ j, tg j < 256) (hln : ∀ j, ln j < 65536) (hse : ∀ j, j < nd → st j + ln j ≤ 300) : Met l yX0_smallInteger wsX0_smallInteger ({ frames := 2, cells := 0, slots := 0, locals := 42 } : Room) (va_Pc [.ref r0, .int node] (cPre dC dI cA (wR cA r0 r1 r2 r3 r4 r5 r6 row rs tg st ln pa nd ar lv of) sz)) (qX0_smallInteger dC dI cA (va_A (wR cA r0 r1 r2 r3 r4 r5 r6 row rs tg st ln pa nd ar lv of) sz) r0 r1 r2 r3 r4 r5 r6 row rs tg st ln pa nd ar lv of node) 0 0 (va_A (wR cA r0 r1 r2 r3 r4 r5 r6 row rs tg st ln pa nd ar lv of) sz) := by
  refine Met.ofW (cc := cX0_smallInteger) (maxL := 3) (ret := (some .int)) (by decide) rfl ?_
  intro p e s m args below meth c s₁ B hml hv
  obtain ⟨rfl, hsz, hP, hK, hD0⟩ := hv
  have hx := B.exec
  have hb := B.bytes
  have hr := B.returns
  have hts := atoms_spec (ws := wsX0_smallInteger) B.pre
  have hown : s.vm.findClass RX0 = some m.cls := findClass_of_methodNamed B.named
  have hlocks := B.notSynchronized
  subst hsz
  have hD := hD0.self (sz := s.heap.size)
  generalize hAe : va_A (wR cA r0 r1 r2 r3 r4 r5 r6 row rs tg st ln pa nd ar lv of) s.heap.size = A at hD ⊢
  have hA : ∀ q : Nat, s.heap.size ≤ q → A q := fun q h => by rw [← hAe]; exact Or.inr h
  have hS : va_S A s.heap s.heap [] := va_S.rf
  have hl := lv_entry ([.ref r0, .int node]) (n := 3) (Nat.le_of_ble_eq_true rfl)
  rw [lg_entry_eq]
  generalize (lg_sl ([.ref r0, .int node]) ++ List.replicate (3 - (lg_sl ([.ref r0, .int node])).length) Slot.unset).toArray = ls at hl ⊢
  have hl : lv_has ls 3 [(0, .ref r0), (1, .int node)] := hl
  have hinX0 : ∀ w ∈ wsX00, w ∈ wsX0_smallInteger := fun _ h => List.mem_cons_of_mem _ (List.mem_append_right _ h)
  have hf_22 := hts (.fieldLink RX0 22 "DerDesk$Reader" "starts" "[I") (by decide +kernel)
  have hf_25 := hts (.fieldLink RX0 25 "DerDesk$Reader" "lengths" "[I") (by decide +kernel)
  have hP : va_P (dC, dI) vwCl (wR cA r0 r1 r2 r3 r4 r5 r6 row rs tg st ln pa nd ar lv of) s.heap := hP
  refine lv_aload_n hx hb dX0_smallInteger_0 rfl (lv_at hl 0 rfl) ?_
  refine lv_iload_n hx hb dX0_smallInteger_1 rfl (lv_at hl 1 rfl) ?_
  refine cl_Vi (As := [.int node]) (rest := []) (wr := []) ⟨hx, hb, hml, hown, hts⟩ (k_X0_isSmallInteger l dC dI cA r0 r1 r2 r3 r4 r5 r6 row rs tg st ln pa nd ar lv of node _ (by omega) htg hln) (cwV 1 hts gX0_smallInteger_X0_isSmallInteger rfl rfl rfl (by decide +kernel) ⟨Nat.le_of_ble_eq_true rfl, Nat.le_of_ble_eq_true rfl⟩) hK hP hD hS hA [0, 1, 2, 3, 4, 5, 6] [] rfl rfl (by decide) (by decide) (by decide) (ci := 0) (q0 := 0) rfl rfl rfl rfl hl.1 rfl (Nat.le_of_ble_eq_true rfl) dX0_smallInteger_2 ⟨Nat.le_of_ble_eq_true rfl, Nat.le_of_ble_eq_true rfl⟩ (fun r_1 u_1 H locs hw_1 hP hD hS => ?_)
  have hP : va_P (dC, dI) vwCl (wR cA r0 r1 r2 r3 r4 r5 r6 row rs tg st ln pa nd ar lv of) H := hP
  have hD : va_D A (wR cA r0 r1 r2 r3 r4 r5 r6 row rs tg st ln pa nd ar lv of) := hD
  have hw_1 : r_1 = if isSm nd tg ln node then 1 else 0 := hw_1
  have hw_1 := hw_1.symm
  subst hw_1
  refine hl_ifb_ne (tgt := 10) hx hb dX0_smallInteger_5 (by decide) (fun c_2 => ?_) (fun c_2 => ?_)
  · refine lv_bipush (v := nI 32) hx hb dX0_smallInteger_10 (by decide) ?_
    refine lv_bipush (v := nI 8) hx hb dX0_smallInteger_12 (by decide) ?_
    refine lv_aload_n hx hb dX0_smallInteger_14 rfl (lv_at hl 0 rfl) ?_
    refine va_get (D := (dC, dI)) (ci := 0) (v := .ref r4) (C := RX0) (T := TX0) (N := 10) hx hb hts hinX0 hown hK hP 0 rfl rfl 4 (by decide) hf_25 (fun _ h9 => h9) rfl dX0_smallInteger_15 ?_
    refine lv_iload_n hx hb dX0_smallInteger_18 rfl (lv_at hl 1 rfl) ?_
    have hq := ‹isSm nd tg ln node›
    have hnl := cl_lt hq.1 (by omega) hq.2.1
    have hl4 := hq.2.2.2
    have hse1 := hse _ hnl
    refine hl_top (cl_of hq.1) ?_
    refine hl_iald hx hb hK hP 4 0 rfl rfl (by omega) (by decide) dX0_smallInteger_19 ?_
    have hv_3 := hln node.toNatClampNeg
    refine hl_imul hx hb dX0_smallInteger_20 ?_
    refine hl_isub hx hb (by omega) dX0_smallInteger_21 ?_
    refine lv_istore_n (lv' := [(2, .int (nI (32 - (8 * (ln node.toNatClampNeg))))), (0, .ref r0), (1, .int node)]) hx hb dX0_smallInteger_22 rfl hl (by decide) rfl (fun ls hl => ?_)
    refine lv_aload_n hx hb dX0_smallInteger_23 rfl (lv_at hl 1 rfl) ?_
    refine lv_aload_n hx hb dX0_smallInteger_24 rfl (lv_at hl 1 rfl) ?_
    refine va_get (D := (dC, dI)) (ci := 0) (v := .ref r3) (C := RX0) (T := TX0) (N := 10) hx hb hts hinX0 hown hK hP 0 rfl rfl 3 (by decide) hf_22 (fun _ h9 => h9) rfl dX0_smallInteger_25 ?_
    refine lv_iload_n hx hb dX0_smallInteger_28 rfl (lv_at hl 2 rfl) ?_
    refine hl_top (cl_of hq.1) ?_
    refine hl_iald hx hb hK hP 3 0 rfl rfl (by omega) (by decide) dX0_smallInteger_29 ?_
    refine lv_aload_n hx hb dX0_smallInteger_30 rfl (lv_at hl 1 rfl) ?_
    refine va_get (D := (dC, dI)) (ci := 0) (v := .ref r4) (C := RX0) (T := TX0) (N := 10) hx hb hts hinX0 hown hK hP 0 rfl rfl 4 (by decide) hf_25 (fun _ h9 => h9) rfl dX0_smallInteger_31 ?_
    refine lv_iload_n hx hb dX0_smallInteger_34 rfl (lv_at hl 2 rfl) ?_
    refine hl_top (cl_of hq.1) ?_
    refine hl_iald hx hb hK hP 4 0 rfl rfl (by omega) (by decide) dX0_smallInteger_35 ?_
    have hv_4 := hln node.toNatClampNeg
    refine cl_Vi (As := [.int (nI (st node.toNatClampNeg)), .int (nI (ln node.toNatClampNeg))]) (rest := []) (wr := []) ⟨hx, hb, hml, hown, hts⟩ (k_X0_numberAt l dC dI cA r0 r1 r2 r3 r4 r5 r6 row rs tg st ln pa nd ar lv of (st node.toNatClampNeg) (ln node.toNatClampNeg) _ hrow (by omega) (by omega)) (cwV 2 hts gX0_smallInteger_X0_numberAt rfl rfl rfl (by decide +kernel) ⟨Nat.le_of_ble_eq_true rfl, Nat.le_of_ble_eq_true rfl⟩) hK hP hD hS hA [0, 1, 2, 3, 4, 5, 6] [] rfl rfl (by decide) (by decide) (by decide) (ci := 0) (q0 := 0) rfl rfl rfl rfl hl.1 rfl (Nat.le_of_ble_eq_true rfl) dX0_smallInteger_36 ⟨Nat.le_of_ble_eq_true rfl, Nat.le_of_ble_eq_true rfl⟩ (fun r_5 u_5 H locs hw_5 hP hD hS => ?_)
    have hP : va_P (dC, dI) vwCl (wR cA r0 r1 r2 r3 r4 r5 r6 row rs tg st ln pa nd ar lv of) H := hP
    have hD : va_D A (wR cA r0 r1 r2 r3 r4 r5 r6 row rs tg st ln pa nd ar lv of) := hD
    have hw_5 : r_5 = nI (numN row (st node.toNatClampNeg) (ln node.toNatClampNeg)) := hw_5
    have hw_5 := hw_5.symm
    subst hw_5
    refine lv_iload_n hx hb dX0_smallInteger_39 rfl (lv_at hl 0 rfl) ?_
    refine lv_ishl hx hb dX0_smallInteger_40 ?_
    refine lv_iload_n hx hb dX0_smallInteger_41 rfl (lv_at hl 0 rfl) ?_
    refine lv_ishr hx hb dX0_smallInteger_42 ?_
    have hP9 : va_P (dC, dI) vwCl (vX0_smallInteger cA r0 r1 r2 r3 r4 r5 r6 row rs tg st ln pa nd ar lv of node ()) _ := hP
    have hD9 : va_D A (vX0_smallInteger cA r0 r1 r2 r3 r4 r5 r6 row rs tg st ln pa nd ar lv of node ()) := hD
    have hq9 : pX0_smallInteger r0 r1 r2 r3 r4 r5 r6 row rs tg st ln pa nd ar lv of node (((nI (numN row (st node.toNatClampNeg) (ln node.toNatClampNeg)) <<< (nI (32 - (8 * (ln node.toNatClampNeg))) &&& 31)) >>> (nI (32 - (8 * (ln node.toNatClampNeg))) &&& 31))) () := (if_pos (by assumption)).symm
    exact W.iret (v := ((nI (numN row (st node.toNatClampNeg) (ln node.toNatClampNeg)) <<< (nI (32 - (8 * (ln node.toNatClampNeg))) &&& 31)) >>> (nI (32 - (8 * (ln node.toNatClampNeg))) &&& 31))) hx hb hr (fun t ht hW => ⟨⟨((nI (numN row (st node.toNatClampNeg) (ln node.toNatClampNeg)) <<< (nI (32 - (8 * (ln node.toNatClampNeg))) &&& 31)) >>> (nI (32 - (8 * (ln node.toNatClampNeg))) &&& 31)), (), rfl, hq9, by rw [ht]; exact hP9, va_K.moved hW.alike hK, hD9⟩, hS.F ht⟩) hS.2.2 dX0_smallInteger_43
  · refine lv_iconst (v := nI 0) hx hb dX0_smallInteger_8 (by decide) ?_
    have hP9 : va_P (dC, dI) vwCl (vX0_smallInteger cA r0 r1 r2 r3 r4 r5 r6 row rs tg st ln pa nd ar lv of node ()) _ := hP
    have hD9 : va_D A (vX0_smallInteger cA r0 r1 r2 r3 r4 r5 r6 row rs tg st ln pa nd ar lv of node ()) := hD
    have hq9 : pX0_smallInteger r0 r1 r2 r3 r4 r5 r6 row rs tg st ln pa nd ar lv of node (nI 0) () := (if_neg (by assumption)).symm
    exact W.iret (v := nI 0) hx hb hr (fun t ht hW => ⟨⟨nI 0, (), rfl, hq9, by rw [ht]; exact hP9, va_K.moved hW.alike hK, hD9⟩, hS.F ht⟩) hS.2.2 dX0_smallInteger_9
abbrev pX0_offendByCutLength (r0 : Nat) (r1 : Nat) (r2 : Nat) (r3 : Nat) (r4 : Nat) (r5 : Nat) (r6 : Nat) (row : Nat → Nat) (rs : Nat) (tg : Nat → Nat) (st : Nat → Nat) (ln : Nat → Nat) (pa : Nat → Int32) (nd : Nat) (ar : Nat → Nat) (lv : Nat) (of : Int32) (pl : Nat) : Int32 → Int32 → Prop := fun (r : Int32) (of2 : Int32) => (r, of2) = cutE lv rs pl
abbrev vX0_offendByCutLength (cA : ClassId) (r0 : Nat) (r1 : Nat) (r2 : Nat) (r3 : Nat) (r4 : Nat) (r5 : Nat) (r6 : Nat) (row : Nat → Nat) (rs : Nat) (tg : Nat → Nat) (st : Nat → Nat) (ln : Nat → Nat) (pa : Nat → Int32) (nd : Nat) (ar : Nat → Nat) (lv : Nat) (of : Int32) (pl : Nat) : Int32 → va_W := fun (of2 : Int32) => wR cA r0 r1 r2 r3 r4 r5 r6 row rs tg st ln pa nd ar lv of2
abbrev qX0_offendByCutLength (dC : Nat → ClassId) (dI : Nat → Nat → Nat) (cA : ClassId) (A : Nat → Prop) (r0 : Nat) (r1 : Nat) (r2 : Nat) (r3 : Nat) (r4 : Nat) (r5 : Nat) (r6 : Nat) (row : Nat → Nat) (rs : Nat) (tg : Nat → Nat) (st : Nat → Nat) (ln : Nat → Nat) (pa : Nat → Int32) (nd : Nat) (ar : Nat → Nat) (lv : Nat) (of : Int32) (pl : Nat) : Array Value → State → Outcome → State → Prop := va_Qi (pX0_offendByCutLength r0 r1 r2 r3 r4 r5 r6 row rs tg st ln pa nd ar lv of pl) (fun u => cAft dC dI cA A (vX0_offendByCutLength cA r0 r1 r2 r3 r4 r5 r6 row rs tg st ln pa nd ar lv of pl u)) A
set_option maxHeartbeats 4000000 in
set_option maxRecDepth 100000 in
theorem k_X0_offendByCutLength (l : Launch) (dC : Nat → ClassId) (dI : Nat → Nat → Nat) (cA : ClassId) (r0 : Nat) (r1 : Nat) (r2 : Nat) (r3 : Nat) (r4 : Nat) (r5 : Nat) (r6 : Nat) (row : Nat → Nat) (rs : Nat) (tg : Nat → Nat) (st : Nat → Nat) (ln : Nat → Nat) (pa : Nat → Int32) (nd : Nat) (ar : Nat → Nat) (lv : Nat) (of : Int32) (pl : Nat) (sz : Nat) (hlv : lv ≤ 16) : Met l yX0_offendByCutLength wsX0_offendByCutLength ({ frames := 1, cells := 0, slots := 0, locals := 22 } : Room) (va_Pc [.ref r0, .int (nI pl)] (cPre dC dI cA (wR cA r0 r1 r2 r3 r4 r5 r6 row rs tg st ln pa nd ar lv of) sz)) (qX0_offendByCutLength dC dI cA (va_A (wR cA r0 r1 r2 r3 r4 r5 r6 row rs tg st ln pa nd ar lv of) sz) r0 r1 r2 r3 r4 r5 r6 row rs tg st ln pa nd ar lv of pl) 0 0 (va_A (wR cA r0 r1 r2 r3 r4 r5 r6 row rs tg st ln pa nd ar lv of) sz) := by
  refine Met.ofW (cc := cX0_offendByCutLength) (maxL := 2) (ret := (some .int)) (by decide) rfl ?_
  intro p e s m args below meth c s₁ B hml hv
  obtain ⟨rfl, hsz, hP, hK, hD0⟩ := hv
  have hx := B.exec
  have hb := B.bytes
  have hr := B.returns
  have hts := atoms_spec (ws := wsX0_offendByCutLength) B.pre
  have hown : s.vm.findClass RX0 = some m.cls := findClass_of_methodNamed B.named
  have hlocks := B.notSynchronized
  subst hsz
  have hD := hD0.self (sz := s.heap.size)
  generalize hAe : va_A (wR cA r0 r1 r2 r3 r4 r5 r6 row rs tg st ln pa nd ar lv of) s.heap.size = A at hD ⊢
  have hA : ∀ q : Nat, s.heap.size ≤ q → A q := fun q h => by rw [← hAe]; exact Or.inr h
  have hS : va_S A s.heap s.heap [] := va_S.rf
  have hl := lv_entry ([.ref r0, .int (nI pl)]) (n := 2) (Nat.le_of_ble_eq_true rfl)
  rw [lg_entry_eq]
  generalize (lg_sl ([.ref r0, .int (nI pl)]) ++ List.replicate (2 - (lg_sl ([.ref r0, .int (nI pl)])).length) Slot.unset).toArray = ls at hl ⊢
  have hl : lv_has ls 2 [(0, .ref r0), (1, .int (nI pl))] := hl
  have hinX0 : ∀ w ∈ wsX00, w ∈ wsX0_offendByCutLength := fun _ h => List.mem_cons_of_mem _ (List.mem_append_right _ h)
  have hf_15 := hts (.fieldLink RX0 15 "DerDesk$Reader" "rowSize" "I") (by decide +kernel)
  have hf_37 := hts (.fieldLink RX0 37 "DerDesk$Reader" "level" "I") (by decide +kernel)
  have hP : va_P (dC, dI) vwCl (wR cA r0 r1 r2 r3 r4 r5 r6 row rs tg st ln pa nd ar lv of) s.heap := hP
  refine lv_aload_n hx hb dX0_offendByCutLength_0 rfl (lv_at hl 0 rfl) ?_
  refine va_get (D := (dC, dI)) (ci := 0) (v := .int (nI lv)) (C := RX0) (T := TX0) (N := 10) hx hb hts hinX0 hown hK hP 0 rfl rfl 8 (by decide) hf_37 (fun _ h9 => h9) rfl dX0_offendByCutLength_1 ?_
  refine hl_if_ne (tgt := 19) hx hb dX0_offendByCutLength_4 (by decide) (by omega) (fun c_1 => ?_) (fun c_1 => ?_)
  · refine lv_aload_n hx hb dX0_offendByCutLength_19 rfl (lv_at hl 0 rfl) ?_
    refine lv_bipush (v := (-4)) hx hb dX0_offendByCutLength_20 (by decide) ?_
    refine lv_iload_n hx hb dX0_offendByCutLength_22 rfl (lv_at hl 1 rfl) ?_
    refine cl_Vi (As := [.int (-4), .int (nI pl)]) (rest := []) (wr := []) ⟨hx, hb, hml, hown, hts⟩ (k_X0_offend l dC dI cA r0 r1 r2 r3 r4 r5 r6 row rs tg st ln pa nd ar lv of (-4) (nI pl) _ ) (cwV 2 hts gX0_offendByCutLength_X0_offend rfl rfl rfl (by decide +kernel) ⟨Nat.le_of_ble_eq_true rfl, Nat.le_of_ble_eq_true rfl⟩) hK hP hD hS hA [0, 1, 2, 3, 4, 5, 6] [] rfl rfl (by decide) (by decide) (by decide) (ci := 0) (q0 := 0) rfl rfl rfl rfl hl.1 rfl (Nat.le_of_ble_eq_true rfl) dX0_offendByCutLength_23 ⟨Nat.le_of_ble_eq_true rfl, Nat.le_of_ble_eq_true rfl⟩ (fun r_2 u_2 H locs hw_2 hP hD hS => ?_)
    obtain ⟨of2_2, eu_2⟩ : ∃ z, z = u_2 := ⟨_, rfl⟩
    subst eu_2
    have hP : va_P (dC, dI) vwCl (wR cA r0 r1 r2 r3 r4 r5 r6 row rs tg st ln pa nd ar lv of2_2) H := hP
    have hD : va_D A (wR cA r0 r1 r2 r3 r4 r5 r6 row rs tg st ln pa nd ar lv of2_2) := hD
    have hw_2 : r_2 = (-4) ∧ of2_2 = (nI pl) := hw_2
    obtain ⟨e0_2, e1_2⟩ := hw_2
    have e0_2 := e0_2.symm
    subst e0_2
    have e1_2 := e1_2.symm
    subst e1_2
    have hP9 : va_P (dC, dI) vwCl (vX0_offendByCutLength cA r0 r1 r2 r3 r4 r5 r6 row rs tg st ln pa nd ar lv of pl (nI pl)) _ := hP
    have hD9 : va_D A (vX0_offendByCutLength cA r0 r1 r2 r3 r4 r5 r6 row rs tg st ln pa nd ar lv of pl (nI pl)) := hD
    have hq9 : pX0_offendByCutLength r0 r1 r2 r3 r4 r5 r6 row rs tg st ln pa nd ar lv of pl ((-4)) (nI pl) := by show (_, _) = cutE lv rs pl; unfold cutE; first | rw [if_pos (by assumption)] | rw [if_neg (by assumption)]
    exact W.iret (v := (-4)) hx hb hr (fun t ht hW => ⟨⟨(-4), (nI pl), rfl, hq9, by rw [ht]; exact hP9, va_K.moved hW.alike hK, hD9⟩, hS.F ht⟩) hS.2.2 dX0_offendByCutLength_26
  · refine lv_aload_n hx hb dX0_offendByCutLength_7 rfl (lv_at hl 0 rfl) ?_
    refine lv_iconst (v := (-1)) hx hb dX0_offendByCutLength_8 (by decide) ?_
    refine lv_aload_n hx hb dX0_offendByCutLength_9 rfl (lv_at hl 0 rfl) ?_
    refine va_get (D := (dC, dI)) (ci := 0) (v := .int (nI rs)) (C := RX0) (T := TX0) (N := 10) hx hb hts hinX0 hown hK hP 0 rfl rfl 1 (by decide) hf_15 (fun _ h9 => h9) rfl dX0_offendByCutLength_10 ?_
    refine cl_Vi (As := [.int (-1), .int (nI rs)]) (rest := []) (wr := []) ⟨hx, hb, hml, hown, hts⟩ (k_X0_offend l dC dI cA r0 r1 r2 r3 r4 r5 r6 row rs tg st ln pa nd ar lv of (-1) (nI rs) _ ) (cwV 2 hts gX0_offendByCutLength_X0_offend rfl rfl rfl (by decide +kernel) ⟨Nat.le_of_ble_eq_true rfl, Nat.le_of_ble_eq_true rfl⟩) hK hP hD hS hA [0, 1, 2, 3, 4, 5, 6] [] rfl rfl (by decide) (by decide) (by decide) (ci := 0) (q0 := 0) rfl rfl rfl rfl hl.1 rfl (Nat.le_of_ble_eq_true rfl) dX0_offendByCutLength_13 ⟨Nat.le_of_ble_eq_true rfl, Nat.le_of_ble_eq_true rfl⟩ (fun r_3 u_3 H locs hw_3 hP hD hS => ?_)
    obtain ⟨of2_3, eu_3⟩ : ∃ z, z = u_3 := ⟨_, rfl⟩
    subst eu_3
    have hP : va_P (dC, dI) vwCl (wR cA r0 r1 r2 r3 r4 r5 r6 row rs tg st ln pa nd ar lv of2_3) H := hP
    have hD : va_D A (wR cA r0 r1 r2 r3 r4 r5 r6 row rs tg st ln pa nd ar lv of2_3) := hD
    have hw_3 : r_3 = (-1) ∧ of2_3 = (nI rs) := hw_3
    obtain ⟨e0_3, e1_3⟩ := hw_3
    have e0_3 := e0_3.symm
    subst e0_3
    have e1_3 := e1_3.symm
    subst e1_3
    refine lv_goto (tgt := 26) hx hb dX0_offendByCutLength_16 (by decide) ?_
    have hP9 : va_P (dC, dI) vwCl (vX0_offendByCutLength cA r0 r1 r2 r3 r4 r5 r6 row rs tg st ln pa nd ar lv of pl (nI rs)) _ := hP
    have hD9 : va_D A (vX0_offendByCutLength cA r0 r1 r2 r3 r4 r5 r6 row rs tg st ln pa nd ar lv of pl (nI rs)) := hD
    have hq9 : pX0_offendByCutLength r0 r1 r2 r3 r4 r5 r6 row rs tg st ln pa nd ar lv of pl ((-1)) (nI rs) := by show (_, _) = cutE lv rs pl; unfold cutE; first | rw [if_pos (by assumption)] | rw [if_neg (by assumption)]
    exact W.iret (v := (-1)) hx hb hr (fun t ht hW => ⟨⟨(-1), (nI rs), rfl, hq9, by rw [ht]; exact hP9, va_K.moved hW.alike hK, hD9⟩, hS.F ht⟩) hS.2.2 dX0_offendByCutLength_26
