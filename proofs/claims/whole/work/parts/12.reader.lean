abbrev pX0_endOf (r0 : Nat) (r1 : Nat) (r2 : Nat) (r3 : Nat) (r4 : Nat) (r5 : Nat) (r6 : Nat) (row : Nat → Nat) (rs : Nat) (tg : Nat → Nat) (st : Nat → Nat) (ln : Nat → Nat) (pa : Nat → Int32) (nd : Nat) (ar : Nat → Nat) (lv : Nat) (of : Int32) (node : Nat) : Int32 → Unit → Prop := fun (r : Int32) (u : Unit) => r = nI (st node + ln node)
abbrev vX0_endOf (cA : ClassId) (r0 : Nat) (r1 : Nat) (r2 : Nat) (r3 : Nat) (r4 : Nat) (r5 : Nat) (r6 : Nat) (row : Nat → Nat) (rs : Nat) (tg : Nat → Nat) (st : Nat → Nat) (ln : Nat → Nat) (pa : Nat → Int32) (nd : Nat) (ar : Nat → Nat) (lv : Nat) (of : Int32) (node : Nat) : Unit → va_W := fun (u : Unit) => wR cA r0 r1 r2 r3 r4 r5 r6 row rs tg st ln pa nd ar lv of
abbrev qX0_endOf (dC : Nat → ClassId) (dI : Nat → Nat → Nat) (cA : ClassId) (A : Nat → Prop) (r0 : Nat) (r1 : Nat) (r2 : Nat) (r3 : Nat) (r4 : Nat) (r5 : Nat) (r6 : Nat) (row : Nat → Nat) (rs : Nat) (tg : Nat → Nat) (st : Nat → Nat) (ln : Nat → Nat) (pa : Nat → Int32) (nd : Nat) (ar : Nat → Nat) (lv : Nat) (of : Int32) (node : Nat) : Array Value → State → Outcome → State → Prop := va_Qi (pX0_endOf r0 r1 r2 r3 r4 r5 r6 row rs tg st ln pa nd ar lv of node) (fun u => cAft dC dI cA A (vX0_endOf cA r0 r1 r2 r3 r4 r5 r6 row rs tg st ln pa nd ar lv of node u)) A
set_option maxHeartbeats 4000000 in
set_option maxRecDepth 100000 in
theorem k_X0_endOf (l : Launch) (dC : Nat → ClassId) (dI : Nat → Nat → Nat) (cA : ClassId) (r0 : Nat) (r1 : Nat) (r2 : Nat) (r3 : Nat) (r4 : Nat) (r5 : Nat) (r6 : Nat) (row : Nat → Nat) (rs : Nat) (tg : Nat → Nat) (st : Nat → Nat) (ln : Nat → Nat) (pa : Nat → Int32) (nd : Nat) (ar : Nat → Nat) (lv : Nat) (of : Int32) (node : Nat) (sz : Nat) (hn1 : node < 64) : Met l yX0_endOf wsX0_endOf ({ frames := 0, cells := 0, slots := 0, locals := 0 } : Room) (va_Pc [.ref r0, .int (nI node)] (cPre dC dI cA (wR cA r0 r1 r2 r3 r4 r5 r6 row rs tg st ln pa nd ar lv of) sz)) (qX0_endOf dC dI cA (va_A (wR cA r0 r1 r2 r3 r4 r5 r6 row rs tg st ln pa nd ar lv of) sz) r0 r1 r2 r3 r4 r5 r6 row rs tg st ln pa nd ar lv of node) 0 0 (va_A (wR cA r0 r1 r2 r3 r4 r5 r6 row rs tg st ln pa nd ar lv of) sz) := by
  refine Met.ofW (cc := cX0_endOf) (maxL := 2) (ret := (some .int)) (by decide) rfl ?_
  intro p e s m args below meth c s₁ B hml hv
  obtain ⟨rfl, hsz, hP, hK, hD0⟩ := hv
  have hx := B.exec
  have hb := B.bytes
  have hr := B.returns
  have hts := atoms_spec (ws := wsX0_endOf) B.pre
  have hown : s.vm.findClass RX0 = some m.cls := findClass_of_methodNamed B.named
  have hlocks := B.notSynchronized
  subst hsz
  have hD := hD0.self (sz := s.heap.size)
  generalize hAe : va_A (wR cA r0 r1 r2 r3 r4 r5 r6 row rs tg st ln pa nd ar lv of) s.heap.size = A at hD ⊢
  have hA : ∀ q : Nat, s.heap.size ≤ q → A q := fun q h => by rw [← hAe]; exact Or.inr h
  have hS : va_S A s.heap s.heap [] := va_S.rf
  have hl := lv_entry ([.ref r0, .int (nI node)]) (n := 2) (Nat.le_of_ble_eq_true rfl)
  rw [lg_entry_eq]
  generalize (lg_sl ([.ref r0, .int (nI node)]) ++ List.replicate (2 - (lg_sl ([.ref r0, .int (nI node)])).length) Slot.unset).toArray = ls at hl ⊢
  have hl : lv_has ls 2 [(0, .ref r0), (1, .int (nI node))] := hl
  have hinX0 : ∀ w ∈ wsX00, w ∈ wsX0_endOf := fun _ h => List.mem_cons_of_mem _ (List.mem_append_right _ h)
  have hf_22 := hts (.fieldLink RX0 22 "DerDesk$Reader" "starts" "[I") (by decide +kernel)
  have hf_25 := hts (.fieldLink RX0 25 "DerDesk$Reader" "lengths" "[I") (by decide +kernel)
  have hP : va_P (dC, dI) vwCl (wR cA r0 r1 r2 r3 r4 r5 r6 row rs tg st ln pa nd ar lv of) s.heap := hP
  refine lv_aload_n hx hb dX0_endOf_0 rfl (lv_at hl 0 rfl) ?_
  refine va_get (D := (dC, dI)) (ci := 0) (v := .ref r3) (C := RX0) (T := TX0) (N := 10) hx hb hts hinX0 hown hK hP 0 rfl rfl 3 (by decide) hf_22 (fun _ h9 => h9) rfl dX0_endOf_1 ?_
  refine lv_iload_n hx hb dX0_endOf_4 rfl (lv_at hl 1 rfl) ?_
  refine hl_iald hx hb hK hP 3 0 rfl rfl (by omega) (by decide) dX0_endOf_5 ?_
  refine lv_aload_n hx hb dX0_endOf_6 rfl (lv_at hl 0 rfl) ?_
  refine va_get (D := (dC, dI)) (ci := 0) (v := .ref r4) (C := RX0) (T := TX0) (N := 10) hx hb hts hinX0 hown hK hP 0 rfl rfl 4 (by decide) hf_25 (fun _ h9 => h9) rfl dX0_endOf_7 ?_
  refine lv_iload_n hx hb dX0_endOf_10 rfl (lv_at hl 1 rfl) ?_
  refine hl_iald hx hb hK hP 4 0 rfl rfl (by omega) (by decide) dX0_endOf_11 ?_
  refine hl_iadd hx hb dX0_endOf_12 ?_
  have hP9 : va_P (dC, dI) vwCl (vX0_endOf cA r0 r1 r2 r3 r4 r5 r6 row rs tg st ln pa nd ar lv of node ()) _ := hP
  have hD9 : va_D A (vX0_endOf cA r0 r1 r2 r3 r4 r5 r6 row rs tg st ln pa nd ar lv of node ()) := hD
  have hq9 : pX0_endOf r0 r1 r2 r3 r4 r5 r6 row rs tg st ln pa nd ar lv of node (nI ((st node) + (ln node))) () := rfl
  exact W.iret (v := nI ((st node) + (ln node))) hx hb hr (fun t ht hW => ⟨⟨nI ((st node) + (ln node)), (), rfl, hq9, by rw [ht]; exact hP9, va_K.moved hW.alike hK, hD9⟩, hS.F ht⟩) hS.2.2 dX0_endOf_13
def limN (rs lv : Nat) (ar st ln : Nat → Nat) : Nat := if lv = 0 then rs else st (ar (lv - 1)) + ln (ar (lv - 1))
abbrev pX0_limitHere (r0 : Nat) (r1 : Nat) (r2 : Nat) (r3 : Nat) (r4 : Nat) (r5 : Nat) (r6 : Nat) (row : Nat → Nat) (rs : Nat) (tg : Nat → Nat) (st : Nat → Nat) (ln : Nat → Nat) (pa : Nat → Int32) (nd : Nat) (ar : Nat → Nat) (lv : Nat) (of : Int32) : Int32 → Unit → Prop := fun (r : Int32) (u : Unit) => r = nI (limN rs lv ar st ln)
abbrev vX0_limitHere (cA : ClassId) (r0 : Nat) (r1 : Nat) (r2 : Nat) (r3 : Nat) (r4 : Nat) (r5 : Nat) (r6 : Nat) (row : Nat → Nat) (rs : Nat) (tg : Nat → Nat) (st : Nat → Nat) (ln : Nat → Nat) (pa : Nat → Int32) (nd : Nat) (ar : Nat → Nat) (lv : Nat) (of : Int32) : Unit → va_W := fun (u : Unit) => wR cA r0 r1 r2 r3 r4 r5 r6 row rs tg st ln pa nd ar lv of
abbrev qX0_limitHere (dC : Nat → ClassId) (dI : Nat → Nat → Nat) (cA : ClassId) (A : Nat → Prop) (r0 : Nat) (r1 : Nat) (r2 : Nat) (r3 : Nat) (r4 : Nat) (r5 : Nat) (r6 : Nat) (row : Nat → Nat) (rs : Nat) (tg : Nat → Nat) (st : Nat → Nat) (ln : Nat → Nat) (pa : Nat → Int32) (nd : Nat) (ar : Nat → Nat) (lv : Nat) (of : Int32) : Array Value → State → Outcome → State → Prop := va_Qi (pX0_limitHere r0 r1 r2 r3 r4 r5 r6 row rs tg st ln pa nd ar lv of) (fun u => cAft dC dI cA A (vX0_limitHere cA r0 r1 r2 r3 r4 r5 r6 row rs tg st ln pa nd ar lv of u)) A
set_option maxHeartbeats 4000000 in
set_option maxRecDepth 100000 in
theorem k_X0_limitHere (l : Launch) (dC : Nat → ClassId) (dI : Nat → Nat → Nat) (cA : ClassId) (r0 : Nat) (r1 : Nat) (r2 : Nat) (r3 : Nat) (r4 : Nat) (r5 : Nat) (r6 : Nat) (row : Nat → Nat) (rs : Nat) (tg : Nat → Nat) (st : Nat → Nat) (ln : Nat → Nat) (pa : Nat → Int32) (nd : Nat) (ar : Nat → Nat) (lv : Nat) (of : Int32) (sz : Nat) (hlv : lv ≤ 16) (har : ∀ j, j < lv → ar j < 64) : Met l yX0_limitHere wsX0_limitHere ({ frames := 1, cells := 0, slots := 0, locals := 21 } : Room) (va_Pc [.ref r0] (cPre dC dI cA (wR cA r0 r1 r2 r3 r4 r5 r6 row rs tg st ln pa nd ar lv of) sz)) (qX0_limitHere dC dI cA (va_A (wR cA r0 r1 r2 r3 r4 r5 r6 row rs tg st ln pa nd ar lv of) sz) r0 r1 r2 r3 r4 r5 r6 row rs tg st ln pa nd ar lv of) 0 0 (va_A (wR cA r0 r1 r2 r3 r4 r5 r6 row rs tg st ln pa nd ar lv of) sz) := by
  refine Met.ofW (cc := cX0_limitHere) (maxL := 1) (ret := (some .int)) (by decide) rfl ?_
  intro p e s m args below meth c s₁ B hml hv
  obtain ⟨rfl, hsz, hP, hK, hD0⟩ := hv
  have hx := B.exec
  have hb := B.bytes
  have hr := B.returns
  have hts := atoms_spec (ws := wsX0_limitHere) B.pre
  have hown : s.vm.findClass RX0 = some m.cls := findClass_of_methodNamed B.named
  have hlocks := B.notSynchronized
  subst hsz
  have hD := hD0.self (sz := s.heap.size)
  generalize hAe : va_A (wR cA r0 r1 r2 r3 r4 r5 r6 row rs tg st ln pa nd ar lv of) s.heap.size = A at hD ⊢
  have hA : ∀ q : Nat, s.heap.size ≤ q → A q := fun q h => by rw [← hAe]; exact Or.inr h
  have hS : va_S A s.heap s.heap [] := va_S.rf
  have hl := lv_entry ([.ref r0]) (n := 1) (Nat.le_of_ble_eq_true rfl)
  rw [lg_entry_eq]
  generalize (lg_sl ([.ref r0]) ++ List.replicate (1 - (lg_sl ([.ref r0])).length) Slot.unset).toArray = ls at hl ⊢
  have hl : lv_has ls 1 [(0, .ref r0)] := hl
  have hinX0 : ∀ w ∈ wsX00, w ∈ wsX0_limitHere := fun _ h => List.mem_cons_of_mem _ (List.mem_append_right _ h)
  have hf_15 := hts (.fieldLink RX0 15 "DerDesk$Reader" "rowSize" "I") (by decide +kernel)
  have hf_34 := hts (.fieldLink RX0 34 "DerDesk$Reader" "around" "[I") (by decide +kernel)
  have hf_37 := hts (.fieldLink RX0 37 "DerDesk$Reader" "level" "I") (by decide +kernel)
  have hP : va_P (dC, dI) vwCl (wR cA r0 r1 r2 r3 r4 r5 r6 row rs tg st ln pa nd ar lv of) s.heap := hP
  refine lv_aload_n hx hb dX0_limitHere_0 rfl (lv_at hl 0 rfl) ?_
  refine va_get (D := (dC, dI)) (ci := 0) (v := .int (nI lv)) (C := RX0) (T := TX0) (N := 10) hx hb hts hinX0 hown hK hP 0 rfl rfl 8 (by decide) hf_37 (fun _ h9 => h9) rfl dX0_limitHere_1 ?_
  refine hl_if_ne (tgt := 14) hx hb dX0_limitHere_4 (by decide) (by omega) (fun c_1 => ?_) (fun c_1 => ?_)
  · refine lv_aload_n hx hb dX0_limitHere_14 rfl (lv_at hl 0 rfl) ?_
    refine lv_aload_n hx hb dX0_limitHere_15 rfl (lv_at hl 0 rfl) ?_
    refine va_get (D := (dC, dI)) (ci := 0) (v := .ref r6) (C := RX0) (T := TX0) (N := 10) hx hb hts hinX0 hown hK hP 0 rfl rfl 7 (by decide) hf_34 (fun _ h9 => h9) rfl dX0_limitHere_16 ?_
    refine lv_aload_n hx hb dX0_limitHere_19 rfl (lv_at hl 0 rfl) ?_
    refine va_get (D := (dC, dI)) (ci := 0) (v := .int (nI lv)) (C := RX0) (T := TX0) (N := 10) hx hb hts hinX0 hown hK hP 0 rfl rfl 8 (by decide) hf_37 (fun _ h9 => h9) rfl dX0_limitHere_20 ?_
    refine lv_iconst (v := nI 1) hx hb dX0_limitHere_23 (by decide) ?_
    refine hl_isub hx hb (by omega) dX0_limitHere_24 ?_
    refine hl_iald hx hb hK hP 6 0 rfl rfl (by omega) (by decide) dX0_limitHere_25 ?_
    refine cl_Vi (As := [.int (nI (ar (lv - 1)))]) (rest := []) (wr := []) ⟨hx, hb, hml, hown, hts⟩ (k_X0_endOf l dC dI cA r0 r1 r2 r3 r4 r5 r6 row rs tg st ln pa nd ar lv of (ar (lv - 1)) _ (har _ (by omega))) (cwV 1 hts gX0_limitHere_X0_endOf rfl rfl rfl (by decide +kernel) ⟨Nat.le_of_ble_eq_true rfl, Nat.le_of_ble_eq_true rfl⟩) hK hP hD hS hA [0, 1, 2, 3, 4, 5, 6] [] rfl rfl (by decide) (by decide) (by decide) (ci := 0) (q0 := 0) rfl rfl rfl rfl hl.1 rfl (Nat.le_of_ble_eq_true rfl) dX0_limitHere_26 ⟨Nat.le_of_ble_eq_true rfl, Nat.le_of_ble_eq_true rfl⟩ (fun r_2 u_2 H locs hw_2 hP hD hS => ?_)
    have hP : va_P (dC, dI) vwCl (wR cA r0 r1 r2 r3 r4 r5 r6 row rs tg st ln pa nd ar lv of) H := hP
    have hD : va_D A (wR cA r0 r1 r2 r3 r4 r5 r6 row rs tg st ln pa nd ar lv of) := hD
    have hw_2 : r_2 = nI (st (ar (lv - 1)) + ln (ar (lv - 1))) := hw_2
    subst hw_2
    have hP9 : va_P (dC, dI) vwCl (vX0_limitHere cA r0 r1 r2 r3 r4 r5 r6 row rs tg st ln pa nd ar lv of ()) _ := hP
    have hD9 : va_D A (vX0_limitHere cA r0 r1 r2 r3 r4 r5 r6 row rs tg st ln pa nd ar lv of ()) := hD
    have hq9 : pX0_limitHere r0 r1 r2 r3 r4 r5 r6 row rs tg st ln pa nd ar lv of (nI (st (ar (lv - 1)) + ln (ar (lv - 1)))) () := congrArg nI (by unfold limN; split <;> first | rfl | omega)
    exact W.iret (v := nI (st (ar (lv - 1)) + ln (ar (lv - 1)))) hx hb hr (fun t ht hW => ⟨⟨nI (st (ar (lv - 1)) + ln (ar (lv - 1))), (), rfl, hq9, by rw [ht]; exact hP9, va_K.moved hW.alike hK, hD9⟩, hS.F ht⟩) hS.2.2 dX0_limitHere_29
  · refine lv_aload_n hx hb dX0_limitHere_7 rfl (lv_at hl 0 rfl) ?_
    refine va_get (D := (dC, dI)) (ci := 0) (v := .int (nI rs)) (C := RX0) (T := TX0) (N := 10) hx hb hts hinX0 hown hK hP 0 rfl rfl 1 (by decide) hf_15 (fun _ h9 => h9) rfl dX0_limitHere_8 ?_
    refine lv_goto (tgt := 29) hx hb dX0_limitHere_11 (by decide) ?_
    have hP9 : va_P (dC, dI) vwCl (vX0_limitHere cA r0 r1 r2 r3 r4 r5 r6 row rs tg st ln pa nd ar lv of ()) _ := hP
    have hD9 : va_D A (vX0_limitHere cA r0 r1 r2 r3 r4 r5 r6 row rs tg st ln pa nd ar lv of ()) := hD
    have hq9 : pX0_limitHere r0 r1 r2 r3 r4 r5 r6 row rs tg st ln pa nd ar lv of (nI rs) () := congrArg nI (by unfold limN; split <;> first | rfl | omega)
    exact W.iret (v := nI rs) hx hb hr (fun t ht hW => ⟨⟨nI rs, (), rfl, hq9, by rw [ht]; exact hP9, va_K.moved hW.alike hK, hD9⟩, hS.F ht⟩) hS.2.2 dX0_limitHere_29
abbrev pX0_offend (r0 : Nat) (r1 : Nat) (r2 : Nat) (r3 : Nat) (r4 : Nat) (r5 : Nat) (r6 : Nat) (row : Nat → Nat) (rs : Nat) (tg : Nat → Nat) (st : Nat → Nat) (ln : Nat → Nat) (pa : Nat → Int32) (nd : Nat) (ar : Nat → Nat) (lv : Nat) (of : Int32) (code : Int32) (pl : Int32) : Int32 → Int32 → Prop := fun (r : Int32) (of2 : Int32) => r = code ∧ of2 = pl
abbrev vX0_offend (cA : ClassId) (r0 : Nat) (r1 : Nat) (r2 : Nat) (r3 : Nat) (r4 : Nat) (r5 : Nat) (r6 : Nat) (row : Nat → Nat) (rs : Nat) (tg : Nat → Nat) (st : Nat → Nat) (ln : Nat → Nat) (pa : Nat → Int32) (nd : Nat) (ar : Nat → Nat) (lv : Nat) (of : Int32) (code : Int32) (pl : Int32) : Int32 → va_W := fun (of2 : Int32) => wR cA r0 r1 r2 r3 r4 r5 r6 row rs tg st ln pa nd ar lv of2
abbrev qX0_offend (dC : Nat → ClassId) (dI : Nat → Nat → Nat) (cA : ClassId) (A : Nat → Prop) (r0 : Nat) (r1 : Nat) (r2 : Nat) (r3 : Nat) (r4 : Nat) (r5 : Nat) (r6 : Nat) (row : Nat → Nat) (rs : Nat) (tg : Nat → Nat) (st : Nat → Nat) (ln : Nat → Nat) (pa : Nat → Int32) (nd : Nat) (ar : Nat → Nat) (lv : Nat) (of : Int32) (code : Int32) (pl : Int32) : Array Value → State → Outcome → State → Prop := va_Qi (pX0_offend r0 r1 r2 r3 r4 r5 r6 row rs tg st ln pa nd ar lv of code pl) (fun u => cAft dC dI cA A (vX0_offend cA r0 r1 r2 r3 r4 r5 r6 row rs tg st ln pa nd ar lv of code pl u)) A
set_option maxHeartbeats 4000000 in
set_option maxRecDepth 100000 in
theorem k_X0_offend (l : Launch) (dC : Nat → ClassId) (dI : Nat → Nat → Nat) (cA : ClassId) (r0 : Nat) (r1 : Nat) (r2 : Nat) (r3 : Nat) (r4 : Nat) (r5 : Nat) (r6 : Nat) (row : Nat → Nat) (rs : Nat) (tg : Nat → Nat) (st : Nat → Nat) (ln : Nat → Nat) (pa : Nat → Int32) (nd : Nat) (ar : Nat → Nat) (lv : Nat) (of : Int32) (code : Int32) (pl : Int32) (sz : Nat)  : Met l yX0_offend wsX0_offend ({ frames := 0, cells := 0, slots := 0, locals := 0 } : Room) (va_Pc [.ref r0, .int code, .int pl] (cPre dC dI cA (wR cA r0 r1 r2 r3 r4 r5 r6 row rs tg st ln pa nd ar lv of) sz)) (qX0_offend dC dI cA (va_A (wR cA r0 r1 r2 r3 r4 r5 r6 row rs tg st ln pa nd ar lv of) sz) r0 r1 r2 r3 r4 r5 r6 row rs tg st ln pa nd ar lv of code pl) 0 0 (va_A (wR cA r0 r1 r2 r3 r4 r5 r6 row rs tg st ln pa nd ar lv of) sz) := by
  refine Met.ofW (cc := cX0_offend) (maxL := 3) (ret := (some .int)) (by decide) rfl ?_
  intro p e s m args below meth c s₁ B hml hv
  obtain ⟨rfl, hsz, hP, hK, hD0⟩ := hv
  have hx := B.exec
  have hb := B.bytes
  have hr := B.returns
  have hts := atoms_spec (ws := wsX0_offend) B.pre
  have hown : s.vm.findClass RX0 = some m.cls := findClass_of_methodNamed B.named
  have hlocks := B.notSynchronized
  subst hsz
  have hD := hD0.self (sz := s.heap.size)
  generalize hAe : va_A (wR cA r0 r1 r2 r3 r4 r5 r6 row rs tg st ln pa nd ar lv of) s.heap.size = A at hD ⊢
  have hA : ∀ q : Nat, s.heap.size ≤ q → A q := fun q h => by rw [← hAe]; exact Or.inr h
  have hS : va_S A s.heap s.heap [] := va_S.rf
  have hl := lv_entry ([.ref r0, .int code, .int pl]) (n := 3) (Nat.le_of_ble_eq_true rfl)
  rw [lg_entry_eq]
  generalize (lg_sl ([.ref r0, .int code, .int pl]) ++ List.replicate (3 - (lg_sl ([.ref r0, .int code, .int pl])).length) Slot.unset).toArray = ls at hl ⊢
  have hl : lv_has ls 3 [(0, .ref r0), (1, .int code), (2, .int pl)] := hl
  have hinX0 : ∀ w ∈ wsX00, w ∈ wsX0_offend := fun _ h => List.mem_cons_of_mem _ (List.mem_append_right _ h)
  have hf_40 := hts (.fieldLink RX0 40 "DerDesk$Reader" "offencePlace" "I") (by decide +kernel)
  have hP : va_P (dC, dI) vwCl (wR cA r0 r1 r2 r3 r4 r5 r6 row rs tg st ln pa nd ar lv of) s.heap := hP
  refine lv_aload_n hx hb dX0_offend_0 rfl (lv_at hl 0 rfl) ?_
  refine lv_iload_n hx hb dX0_offend_1 rfl (lv_at hl 2 rfl) ?_
  refine va_put (D := (dC, dI)) (ci := 0) (v := .int pl) (ty := .int) (C := RX0) (T := TX0) (N := 10) hx hb hts hinX0 tyX0 tyX0_ok nmX0 hown hK hP hD hS 0 rfl rfl 9 (by decide) hf_40 (fun _ h9 => h9) rfl (by decide +kernel) rfl rfl (Nat.le_of_ble_eq_true rfl) dX0_offend_2 (fun H locs hP hD hS => ?_)
  have hP : va_P (dC, dI) vwCl (wR cA r0 r1 r2 r3 r4 r5 r6 row rs tg st ln pa nd ar lv pl) H := hP
  have hD : va_D A (wR cA r0 r1 r2 r3 r4 r5 r6 row rs tg st ln pa nd ar lv pl) := hD
  refine lv_iload_n hx hb dX0_offend_5 rfl (lv_at hl 1 rfl) ?_
  have hP9 : va_P (dC, dI) vwCl (vX0_offend cA r0 r1 r2 r3 r4 r5 r6 row rs tg st ln pa nd ar lv of code pl pl) _ := hP
  have hD9 : va_D A (vX0_offend cA r0 r1 r2 r3 r4 r5 r6 row rs tg st ln pa nd ar lv of code pl pl) := hD
  have hq9 : pX0_offend r0 r1 r2 r3 r4 r5 r6 row rs tg st ln pa nd ar lv of code pl (code) pl := ⟨rfl, rfl⟩
  exact W.iret (v := code) hx hb hr (fun t ht hW => ⟨⟨code, pl, rfl, hq9, by rw [ht]; exact hP9, va_K.moved hW.alike hK, hD9⟩, hS.F ht⟩) hS.2.2 dX0_offend_6
abbrev pX0_isNode (r0 : Nat) (r1 : Nat) (r2 : Nat) (r3 : Nat) (r4 : Nat) (r5 : Nat) (r6 : Nat) (row : Nat → Nat) (rs : Nat) (tg : Nat → Nat) (st : Nat → Nat) (ln : Nat → Nat) (pa : Nat → Int32) (nd : Nat) (ar : Nat → Nat) (lv : Nat) (of : Int32) (node : Int32) : Int32 → Unit → Prop := fun (r : Int32) (u : Unit) => r = if ¬ node < 0 ∧ node < nI nd then 1 else 0
abbrev vX0_isNode (cA : ClassId) (r0 : Nat) (r1 : Nat) (r2 : Nat) (r3 : Nat) (r4 : Nat) (r5 : Nat) (r6 : Nat) (row : Nat → Nat) (rs : Nat) (tg : Nat → Nat) (st : Nat → Nat) (ln : Nat → Nat) (pa : Nat → Int32) (nd : Nat) (ar : Nat → Nat) (lv : Nat) (of : Int32) (node : Int32) : Unit → va_W := fun (u : Unit) => wR cA r0 r1 r2 r3 r4 r5 r6 row rs tg st ln pa nd ar lv of
abbrev qX0_isNode (dC : Nat → ClassId) (dI : Nat → Nat → Nat) (cA : ClassId) (A : Nat → Prop) (r0 : Nat) (r1 : Nat) (r2 : Nat) (r3 : Nat) (r4 : Nat) (r5 : Nat) (r6 : Nat) (row : Nat → Nat) (rs : Nat) (tg : Nat → Nat) (st : Nat → Nat) (ln : Nat → Nat) (pa : Nat → Int32) (nd : Nat) (ar : Nat → Nat) (lv : Nat) (of : Int32) (node : Int32) : Array Value → State → Outcome → State → Prop := va_Qi (pX0_isNode r0 r1 r2 r3 r4 r5 r6 row rs tg st ln pa nd ar lv of node) (fun u => cAft dC dI cA A (vX0_isNode cA r0 r1 r2 r3 r4 r5 r6 row rs tg st ln pa nd ar lv of node u)) A
set_option maxHeartbeats 4000000 in
set_option maxRecDepth 100000 in
theorem k_X0_isNode (l : Launch) (dC : Nat → ClassId) (dI : Nat → Nat → Nat) (cA : ClassId) (r0 : Nat) (r1 : Nat) (r2 : Nat) (r3 : Nat) (r4 : Nat) (r5 : Nat) (r6 : Nat) (row : Nat → Nat) (rs : Nat) (tg : Nat → Nat) (st : Nat → Nat) (ln : Nat → Nat) (pa : Nat → Int32) (nd : Nat) (ar : Nat → Nat) (lv : Nat) (of : Int32) (node : Int32) (sz : Nat)  : Met l yX0_isNode wsX0_isNode ({ frames := 0, cells := 0, slots := 0, locals := 0 } : Room) (va_Pc [.ref r0, .int node] (cPre dC dI cA (wR cA r0 r1 r2 r3 r4 r5 r6 row rs tg st ln pa nd ar lv of) sz)) (qX0_isNode dC dI cA (va_A (wR cA r0 r1 r2 r3 r4 r5 r6 row rs tg st ln pa nd ar lv of) sz) r0 r1 r2 r3 r4 r5 r6 row rs tg st ln pa nd ar lv of node) 0 0 (va_A (wR cA r0 r1 r2 r3 r4 r5 r6 row rs tg st ln pa nd ar lv of) sz) := by
  refine Met.ofW (cc := cX0_isNode) (maxL := 2) (ret := (some .boolean)) (by decide) rfl ?_
  intro p e s m args below meth c s₁ B hml hv
  obtain ⟨rfl, hsz, hP, hK, hD0⟩ := hv
  have hx := B.exec
  have hb := B.bytes
  have hr := B.returns
  have hts := atoms_spec (ws := wsX0_isNode) B.pre
  have hown : s.vm.findClass RX0 = some m.cls := findClass_of_methodNamed B.named
  have hlocks := B.notSynchronized
  subst hsz
  have hD := hD0.self (sz := s.heap.size)
  generalize hAe : va_A (wR cA r0 r1 r2 r3 r4 r5 r6 row rs tg st ln pa nd ar lv of) s.heap.size = A at hD ⊢
  have hA : ∀ q : Nat, s.heap.size ≤ q → A q := fun q h => by rw [← hAe]; exact Or.inr h
  have hS : va_S A s.heap s.heap [] := va_S.rf
  have hl := lv_entry ([.ref r0, .int node]) (n := 2) (Nat.le_of_ble_eq_true rfl)
  rw [lg_entry_eq]
  generalize (lg_sl ([.ref r0, .int node]) ++ List.replicate (2 - (lg_sl ([.ref r0, .int node])).length) Slot.unset).toArray = ls at hl ⊢
  have hl : lv_has ls 2 [(0, .ref r0), (1, .int node)] := hl
  have hinX0 : ∀ w ∈ wsX00, w ∈ wsX0_isNode := fun _ h => List.mem_cons_of_mem _ (List.mem_append_right _ h)
  have hf_31 := hts (.fieldLink RX0 31 "DerDesk$Reader" "nodes" "I") (by decide +kernel)
  have hP : va_P (dC, dI) vwCl (wR cA r0 r1 r2 r3 r4 r5 r6 row rs tg st ln pa nd ar lv of) s.heap := hP
  refine lv_iload_n hx hb dX0_isNode_0 rfl (lv_at hl 1 rfl) ?_
  refine lv_if_lt (tgt := 16) hx hb dX0_isNode_1 (by decide) (fun c_1 => ?_) (fun c_1 => ?_)
  · refine lv_iconst (v := nI 0) hx hb dX0_isNode_16 (by decide) ?_
    have hP9 : va_P (dC, dI) vwCl (vX0_isNode cA r0 r1 r2 r3 r4 r5 r6 row rs tg st ln pa nd ar lv of node ()) _ := hP
    have hD9 : va_D A (vX0_isNode cA r0 r1 r2 r3 r4 r5 r6 row rs tg st ln pa nd ar lv of node ()) := hD
    have hq9 : pX0_isNode r0 r1 r2 r3 r4 r5 r6 row rs tg st ln pa nd ar lv of node (nI 0) () := (if_neg (by first | omega | grind)).symm
    exact W.zret (v := nI 0) hx hb hr rfl (fun t ht hW => ⟨⟨nI 0, (), rfl, hq9, by rw [ht]; exact hP9, va_K.moved hW.alike hK, hD9⟩, hS.F ht⟩) hS.2.2 dX0_isNode_17
  · refine lv_iload_n hx hb dX0_isNode_4 rfl (lv_at hl 1 rfl) ?_
    refine lv_aload_n hx hb dX0_isNode_5 rfl (lv_at hl 0 rfl) ?_
    refine va_get (D := (dC, dI)) (ci := 0) (v := .int (nI nd)) (C := RX0) (T := TX0) (N := 10) hx hb hts hinX0 hown hK hP 0 rfl rfl 6 (by decide) hf_31 (fun _ h9 => h9) rfl dX0_isNode_6 ?_
    refine lv_icmp_ge (tgt := 16) hx hb dX0_isNode_9 (by decide) (fun c_2 => ?_) (fun c_2 => ?_)
    · refine lv_iconst (v := nI 0) hx hb dX0_isNode_16 (by decide) ?_
      have hP9 : va_P (dC, dI) vwCl (vX0_isNode cA r0 r1 r2 r3 r4 r5 r6 row rs tg st ln pa nd ar lv of node ()) _ := hP
      have hD9 : va_D A (vX0_isNode cA r0 r1 r2 r3 r4 r5 r6 row rs tg st ln pa nd ar lv of node ()) := hD
      have hq9 : pX0_isNode r0 r1 r2 r3 r4 r5 r6 row rs tg st ln pa nd ar lv of node (nI 0) () := (if_neg (by first | omega | grind)).symm
      exact W.zret (v := nI 0) hx hb hr rfl (fun t ht hW => ⟨⟨nI 0, (), rfl, hq9, by rw [ht]; exact hP9, va_K.moved hW.alike hK, hD9⟩, hS.F ht⟩) hS.2.2 dX0_isNode_17
    · refine lv_iconst (v := nI 1) hx hb dX0_isNode_12 (by decide) ?_
      refine lv_goto (tgt := 17) hx hb dX0_isNode_13 (by decide) ?_
      have hP9 : va_P (dC, dI) vwCl (vX0_isNode cA r0 r1 r2 r3 r4 r5 r6 row rs tg st ln pa nd ar lv of node ()) _ := hP
      have hD9 : va_D A (vX0_isNode cA r0 r1 r2 r3 r4 r5 r6 row rs tg st ln pa nd ar lv of node ()) := hD
      have hq9 : pX0_isNode r0 r1 r2 r3 r4 r5 r6 row rs tg st ln pa nd ar lv of node (nI 1) () := (if_pos (by first | omega | grind)).symm
      exact W.zret (v := nI 1) hx hb hr rfl (fun t ht hW => ⟨⟨nI 1, (), rfl, hq9, by rw [ht]; exact hP9, va_K.moved hW.alike hK, hD9⟩, hS.F ht⟩) hS.2.2 dX0_isNode_17
