abbrev pX4_restart (m0 : Nat) (m1 : Nat) (m2 : Nat) (m3 : Nat) (m4 : Nat) (m5 : Nat) (m6 : Nat) (m7 : Nat) (m8 : Nat) (m9 : Nat) (cd : Int32) (row : Nat → Nat) (sz1 : Nat) (nd : Nat) (tg : Nat → Nat) (st : Nat → Nat) (ln : Nat → Nat) (pa : Nat → Int32) (rd : Nat) (of : Int32) (ar : Nat → Nat) (dp : Nat) (at_ : Nat) (rs : Int32) (fd : Nat) (pl : Int32) (tx : Nat → Nat) (ou : Nat → Nat) (wr : Nat) (op : Nat → Nat) (on : Nat) (dn : Nat) : Int32 × Nat × Nat × Nat → Prop := fun (u : Int32 × Nat × Nat × Nat) => match u with | (cd2, wr2, on2, dn2) => cd2 = nI 0 ∧ wr2 = 0 ∧ on2 = 0 ∧ dn2 = 0
abbrev vX4_restart (cA : ClassId) (m0 : Nat) (m1 : Nat) (m2 : Nat) (m3 : Nat) (m4 : Nat) (m5 : Nat) (m6 : Nat) (m7 : Nat) (m8 : Nat) (m9 : Nat) (cd : Int32) (row : Nat → Nat) (sz1 : Nat) (nd : Nat) (tg : Nat → Nat) (st : Nat → Nat) (ln : Nat → Nat) (pa : Nat → Int32) (rd : Nat) (of : Int32) (ar : Nat → Nat) (dp : Nat) (at_ : Nat) (rs : Int32) (fd : Nat) (pl : Int32) (tx : Nat → Nat) (ou : Nat → Nat) (wr : Nat) (op : Nat → Nat) (on : Nat) (dn : Nat) : Int32 × Nat × Nat × Nat → va_W := fun (u : Int32 × Nat × Nat × Nat) => match u with | (cd2, wr2, on2, dn2) => wM cA m0 m1 m2 m3 m4 m5 m6 m7 m8 m9 cd2 row sz1 nd tg st ln pa rd of ar dp at_ rs fd pl tx ou wr2 op on2 dn2
abbrev qX4_restart (dC : Nat → ClassId) (dI : Nat → Nat → Nat) (cA : ClassId) (A : Nat → Prop) (m0 : Nat) (m1 : Nat) (m2 : Nat) (m3 : Nat) (m4 : Nat) (m5 : Nat) (m6 : Nat) (m7 : Nat) (m8 : Nat) (m9 : Nat) (cd : Int32) (row : Nat → Nat) (sz1 : Nat) (nd : Nat) (tg : Nat → Nat) (st : Nat → Nat) (ln : Nat → Nat) (pa : Nat → Int32) (rd : Nat) (of : Int32) (ar : Nat → Nat) (dp : Nat) (at_ : Nat) (rs : Int32) (fd : Nat) (pl : Int32) (tx : Nat → Nat) (ou : Nat → Nat) (wr : Nat) (op : Nat → Nat) (on : Nat) (dn : Nat) : Array Value → State → Outcome → State → Prop := va_Qv (pX4_restart m0 m1 m2 m3 m4 m5 m6 m7 m8 m9 cd row sz1 nd tg st ln pa rd of ar dp at_ rs fd pl tx ou wr op on dn) (fun u => cAft dC dI cA A (vX4_restart cA m0 m1 m2 m3 m4 m5 m6 m7 m8 m9 cd row sz1 nd tg st ln pa rd of ar dp at_ rs fd pl tx ou wr op on dn u)) A
set_option maxHeartbeats 4000000 in
set_option maxRecDepth 100000 in
theorem k_X4_restart (l : Launch) (dC : Nat → ClassId) (dI : Nat → Nat → Nat) (cA : ClassId) (m0 : Nat) (m1 : Nat) (m2 : Nat) (m3 : Nat) (m4 : Nat) (m5 : Nat) (m6 : Nat) (m7 : Nat) (m8 : Nat) (m9 : Nat) (cd : Int32) (row : Nat → Nat) (sz1 : Nat) (nd : Nat) (tg : Nat → Nat) (st : Nat → Nat) (ln : Nat → Nat) (pa : Nat → Int32) (rd : Nat) (of : Int32) (ar : Nat → Nat) (dp : Nat) (at_ : Nat) (rs : Int32) (fd : Nat) (pl : Int32) (tx : Nat → Nat) (ou : Nat → Nat) (wr : Nat) (op : Nat → Nat) (on : Nat) (dn : Nat) (sz : Nat)  : Met l yX4_restart wsX4_restart ({ frames := 0, cells := 0, slots := 0, locals := 0 } : Room) (va_Pc [.ref m0] (cPre dC dI cA (wM cA m0 m1 m2 m3 m4 m5 m6 m7 m8 m9 cd row sz1 nd tg st ln pa rd of ar dp at_ rs fd pl tx ou wr op on dn) sz)) (qX4_restart dC dI cA (va_A (wM cA m0 m1 m2 m3 m4 m5 m6 m7 m8 m9 cd row sz1 nd tg st ln pa rd of ar dp at_ rs fd pl tx ou wr op on dn) sz) m0 m1 m2 m3 m4 m5 m6 m7 m8 m9 cd row sz1 nd tg st ln pa rd of ar dp at_ rs fd pl tx ou wr op on dn) 0 0 (va_A (wM cA m0 m1 m2 m3 m4 m5 m6 m7 m8 m9 cd row sz1 nd tg st ln pa rd of ar dp at_ rs fd pl tx ou wr op on dn) sz) := by
  refine Met.ofW (cc := cX4_restart) (maxL := 1) (ret := none) (by decide) rfl ?_
  intro p e s m args below meth c s₁ B hml hv
  obtain ⟨rfl, hsz, hP, hK, hD0⟩ := hv
  have hx := B.exec
  have hb := B.bytes
  have hr := B.returns
  have hts := atoms_spec (ws := wsX4_restart) B.pre
  have hown : s.vm.findClass RX4 = some m.cls := findClass_of_methodNamed B.named
  have hlocks := B.notSynchronized
  subst hsz
  have hD := hD0.self (sz := s.heap.size)
  generalize hAe : va_A (wM cA m0 m1 m2 m3 m4 m5 m6 m7 m8 m9 cd row sz1 nd tg st ln pa rd of ar dp at_ rs fd pl tx ou wr op on dn) s.heap.size = A at hD ⊢
  have hA : ∀ q : Nat, s.heap.size ≤ q → A q := fun q h => by rw [← hAe]; exact Or.inr h
  have hS : va_S A s.heap s.heap [] := va_S.rf
  have hl := lv_entry ([.ref m0]) (n := 1) (Nat.le_of_ble_eq_true rfl)
  rw [lg_entry_eq]
  generalize (lg_sl ([.ref m0]) ++ List.replicate (1 - (lg_sl ([.ref m0])).length) Slot.unset).toArray = ls at hl ⊢
  have hl : lv_has ls 1 [(0, .ref m0)] := hl
  have hinX4 : ∀ w ∈ wsX40, w ∈ wsX4_restart := fun _ h => List.mem_cons_of_mem _ (List.mem_append_right _ h)
  have hf_41 := hts (.fieldLink RX4 41 "DerDeskModel" "code" "I") (by decide +kernel)
  have hf_112 := hts (.fieldLink RX4 112 "DerDeskModel" "written" "I") (by decide +kernel)
  have hf_115 := hts (.fieldLink RX4 115 "DerDeskModel" "open" "I") (by decide +kernel)
  have hf_118 := hts (.fieldLink RX4 118 "DerDeskModel" "done" "Z") (by decide +kernel)
  have hP : va_P (dC, dI) vwCl (wM cA m0 m1 m2 m3 m4 m5 m6 m7 m8 m9 cd row sz1 nd tg st ln pa rd of ar dp at_ rs fd pl tx ou wr op on dn) s.heap := hP
  refine lv_aload_n hx hb dX4_restart_0 rfl (lv_at hl 0 rfl) ?_
  refine lv_iconst (v := nI 0) hx hb dX4_restart_1 (by decide) ?_
  refine va_put (D := (dC, dI)) (ci := 3) (v := .int (nI 0)) (ty := .int) (C := RX4) (T := TX4) (N := 22) hx hb hts hinX4 tyX4 tyX4_ok nmX4 hown hK hP hD hS 0 rfl rfl 0 (by decide) hf_41 (fun _ h9 => h9) rfl (by decide +kernel) rfl rfl (Nat.le_of_ble_eq_true rfl) dX4_restart_2 (fun H locs hP hD hS => ?_)
  have hP : va_P (dC, dI) vwCl (wM cA m0 m1 m2 m3 m4 m5 m6 m7 m8 m9 (nI 0) row sz1 nd tg st ln pa rd of ar dp at_ rs fd pl tx ou wr op on dn) H := hP
  have hD : va_D A (wM cA m0 m1 m2 m3 m4 m5 m6 m7 m8 m9 (nI 0) row sz1 nd tg st ln pa rd of ar dp at_ rs fd pl tx ou wr op on dn) := hD
  refine lv_aload_n hx hb dX4_restart_5 rfl (lv_at hl 0 rfl) ?_
  refine lv_iconst (v := nI 0) hx hb dX4_restart_6 (by decide) ?_
  refine va_put (D := (dC, dI)) (ci := 3) (v := .int (nI 0)) (ty := .int) (C := RX4) (T := TX4) (N := 22) hx hb hts hinX4 tyX4 tyX4_ok nmX4 hown hK hP hD hS 0 rfl rfl 18 (by decide) hf_112 (fun _ h9 => h9) rfl (by decide +kernel) rfl rfl (Nat.le_of_ble_eq_true rfl) dX4_restart_7 (fun H locs hP hD hS => ?_)
  have hP : va_P (dC, dI) vwCl (wM cA m0 m1 m2 m3 m4 m5 m6 m7 m8 m9 (nI 0) row sz1 nd tg st ln pa rd of ar dp at_ rs fd pl tx ou 0 op on dn) H := hP
  have hD : va_D A (wM cA m0 m1 m2 m3 m4 m5 m6 m7 m8 m9 (nI 0) row sz1 nd tg st ln pa rd of ar dp at_ rs fd pl tx ou 0 op on dn) := hD
  refine lv_aload_n hx hb dX4_restart_10 rfl (lv_at hl 0 rfl) ?_
  refine lv_iconst (v := nI 0) hx hb dX4_restart_11 (by decide) ?_
  refine va_put (D := (dC, dI)) (ci := 3) (v := .int (nI 0)) (ty := .int) (C := RX4) (T := TX4) (N := 22) hx hb hts hinX4 tyX4 tyX4_ok nmX4 hown hK hP hD hS 0 rfl rfl 20 (by decide) hf_115 (fun _ h9 => h9) rfl (by decide +kernel) rfl rfl (Nat.le_of_ble_eq_true rfl) dX4_restart_12 (fun H locs hP hD hS => ?_)
  have hP : va_P (dC, dI) vwCl (wM cA m0 m1 m2 m3 m4 m5 m6 m7 m8 m9 (nI 0) row sz1 nd tg st ln pa rd of ar dp at_ rs fd pl tx ou 0 op 0 dn) H := hP
  have hD : va_D A (wM cA m0 m1 m2 m3 m4 m5 m6 m7 m8 m9 (nI 0) row sz1 nd tg st ln pa rd of ar dp at_ rs fd pl tx ou 0 op 0 dn) := hD
  refine lv_aload_n hx hb dX4_restart_15 rfl (lv_at hl 0 rfl) ?_
  refine lv_iconst (v := nI 0) hx hb dX4_restart_16 (by decide) ?_
  refine va_put (D := (dC, dI)) (ci := 3) (v := .int (nI 0)) (ty := .boolean) (C := RX4) (T := TX4) (N := 22) hx hb hts hinX4 tyX4 tyX4_ok nmX4 hown hK hP hD hS 0 rfl rfl 21 (by decide) hf_118 (fun _ h9 => h9) rfl (by decide +kernel) rfl rfl (Nat.le_of_ble_eq_true rfl) dX4_restart_17 (fun H locs hP hD hS => ?_)
  have hP : va_P (dC, dI) vwCl (wM cA m0 m1 m2 m3 m4 m5 m6 m7 m8 m9 (nI 0) row sz1 nd tg st ln pa rd of ar dp at_ rs fd pl tx ou 0 op 0 0) H := hP
  have hD : va_D A (wM cA m0 m1 m2 m3 m4 m5 m6 m7 m8 m9 (nI 0) row sz1 nd tg st ln pa rd of ar dp at_ rs fd pl tx ou 0 op 0 0) := hD
  have hP9 : va_P (dC, dI) vwCl (vX4_restart cA m0 m1 m2 m3 m4 m5 m6 m7 m8 m9 cd row sz1 nd tg st ln pa rd of ar dp at_ rs fd pl tx ou wr op on dn (nI 0, 0, 0, 0)) _ := hP
  have hD9 : va_D A (vX4_restart cA m0 m1 m2 m3 m4 m5 m6 m7 m8 m9 cd row sz1 nd tg st ln pa rd of ar dp at_ rs fd pl tx ou wr op on dn (nI 0, 0, 0, 0)) := hD
  have hq9 : pX4_restart m0 m1 m2 m3 m4 m5 m6 m7 m8 m9 cd row sz1 nd tg st ln pa rd of ar dp at_ rs fd pl tx ou wr op on dn (nI 0, 0, 0, 0) := ⟨rfl, rfl, rfl, rfl⟩
  exact W.vret hx hb hr (fun t ht hW => ⟨⟨(nI 0, 0, 0, 0), rfl, hq9, by rw [ht]; exact hP9, va_K.moved hW.alike hK, hD9⟩, hS.F ht⟩) hS.2.2 dX4_restart_20
abbrev pX4_outSize (m0 : Nat) (m1 : Nat) (m2 : Nat) (m3 : Nat) (m4 : Nat) (m5 : Nat) (m6 : Nat) (m7 : Nat) (m8 : Nat) (m9 : Nat) (cd : Int32) (row : Nat → Nat) (sz1 : Nat) (nd : Nat) (tg : Nat → Nat) (st : Nat → Nat) (ln : Nat → Nat) (pa : Nat → Int32) (rd : Nat) (of : Int32) (ar : Nat → Nat) (dp : Nat) (at_ : Nat) (rs : Int32) (fd : Nat) (pl : Int32) (tx : Nat → Nat) (ou : Nat → Nat) (wr : Nat) (op : Nat → Nat) (on : Nat) (dn : Nat) : Int32 → Int32 → Prop := fun (r : Int32) (cd2 : Int32) => r = nI wr ∧ cd2 = nI 0
abbrev vX4_outSize (cA : ClassId) (m0 : Nat) (m1 : Nat) (m2 : Nat) (m3 : Nat) (m4 : Nat) (m5 : Nat) (m6 : Nat) (m7 : Nat) (m8 : Nat) (m9 : Nat) (cd : Int32) (row : Nat → Nat) (sz1 : Nat) (nd : Nat) (tg : Nat → Nat) (st : Nat → Nat) (ln : Nat → Nat) (pa : Nat → Int32) (rd : Nat) (of : Int32) (ar : Nat → Nat) (dp : Nat) (at_ : Nat) (rs : Int32) (fd : Nat) (pl : Int32) (tx : Nat → Nat) (ou : Nat → Nat) (wr : Nat) (op : Nat → Nat) (on : Nat) (dn : Nat) : Int32 → va_W := fun (cd2 : Int32) => wM cA m0 m1 m2 m3 m4 m5 m6 m7 m8 m9 cd2 row sz1 nd tg st ln pa rd of ar dp at_ rs fd pl tx ou wr op on dn
abbrev qX4_outSize (dC : Nat → ClassId) (dI : Nat → Nat → Nat) (cA : ClassId) (A : Nat → Prop) (m0 : Nat) (m1 : Nat) (m2 : Nat) (m3 : Nat) (m4 : Nat) (m5 : Nat) (m6 : Nat) (m7 : Nat) (m8 : Nat) (m9 : Nat) (cd : Int32) (row : Nat → Nat) (sz1 : Nat) (nd : Nat) (tg : Nat → Nat) (st : Nat → Nat) (ln : Nat → Nat) (pa : Nat → Int32) (rd : Nat) (of : Int32) (ar : Nat → Nat) (dp : Nat) (at_ : Nat) (rs : Int32) (fd : Nat) (pl : Int32) (tx : Nat → Nat) (ou : Nat → Nat) (wr : Nat) (op : Nat → Nat) (on : Nat) (dn : Nat) : Array Value → State → Outcome → State → Prop := va_Qi (pX4_outSize m0 m1 m2 m3 m4 m5 m6 m7 m8 m9 cd row sz1 nd tg st ln pa rd of ar dp at_ rs fd pl tx ou wr op on dn) (fun u => cAft dC dI cA A (vX4_outSize cA m0 m1 m2 m3 m4 m5 m6 m7 m8 m9 cd row sz1 nd tg st ln pa rd of ar dp at_ rs fd pl tx ou wr op on dn u)) A
set_option maxHeartbeats 4000000 in
set_option maxRecDepth 100000 in
theorem k_X4_outSize (l : Launch) (dC : Nat → ClassId) (dI : Nat → Nat → Nat) (cA : ClassId) (m0 : Nat) (m1 : Nat) (m2 : Nat) (m3 : Nat) (m4 : Nat) (m5 : Nat) (m6 : Nat) (m7 : Nat) (m8 : Nat) (m9 : Nat) (cd : Int32) (row : Nat → Nat) (sz1 : Nat) (nd : Nat) (tg : Nat → Nat) (st : Nat → Nat) (ln : Nat → Nat) (pa : Nat → Int32) (rd : Nat) (of : Int32) (ar : Nat → Nat) (dp : Nat) (at_ : Nat) (rs : Int32) (fd : Nat) (pl : Int32) (tx : Nat → Nat) (ou : Nat → Nat) (wr : Nat) (op : Nat → Nat) (on : Nat) (dn : Nat) (sz : Nat)  : Met l yX4_outSize wsX4_outSize ({ frames := 0, cells := 0, slots := 0, locals := 0 } : Room) (va_Pc [.ref m0] (cPre dC dI cA (wM cA m0 m1 m2 m3 m4 m5 m6 m7 m8 m9 cd row sz1 nd tg st ln pa rd of ar dp at_ rs fd pl tx ou wr op on dn) sz)) (qX4_outSize dC dI cA (va_A (wM cA m0 m1 m2 m3 m4 m5 m6 m7 m8 m9 cd row sz1 nd tg st ln pa rd of ar dp at_ rs fd pl tx ou wr op on dn) sz) m0 m1 m2 m3 m4 m5 m6 m7 m8 m9 cd row sz1 nd tg st ln pa rd of ar dp at_ rs fd pl tx ou wr op on dn) 0 0 (va_A (wM cA m0 m1 m2 m3 m4 m5 m6 m7 m8 m9 cd row sz1 nd tg st ln pa rd of ar dp at_ rs fd pl tx ou wr op on dn) sz) := by
  refine Met.ofW (cc := cX4_outSize) (maxL := 1) (ret := (some .int)) (by decide) rfl ?_
  intro p e s m args below meth c s₁ B hml hv
  obtain ⟨rfl, hsz, hP, hK, hD0⟩ := hv
  have hx := B.exec
  have hb := B.bytes
  have hr := B.returns
  have hts := atoms_spec (ws := wsX4_outSize) B.pre
  have hown : s.vm.findClass RX4 = some m.cls := findClass_of_methodNamed B.named
  have hlocks := B.notSynchronized
  subst hsz
  have hD := hD0.self (sz := s.heap.size)
  generalize hAe : va_A (wM cA m0 m1 m2 m3 m4 m5 m6 m7 m8 m9 cd row sz1 nd tg st ln pa rd of ar dp at_ rs fd pl tx ou wr op on dn) s.heap.size = A at hD ⊢
  have hA : ∀ q : Nat, s.heap.size ≤ q → A q := fun q h => by rw [← hAe]; exact Or.inr h
  have hS : va_S A s.heap s.heap [] := va_S.rf
  have hl := lv_entry ([.ref m0]) (n := 1) (Nat.le_of_ble_eq_true rfl)
  rw [lg_entry_eq]
  generalize (lg_sl ([.ref m0]) ++ List.replicate (1 - (lg_sl ([.ref m0])).length) Slot.unset).toArray = ls at hl ⊢
  have hl : lv_has ls 1 [(0, .ref m0)] := hl
  have hinX4 : ∀ w ∈ wsX40, w ∈ wsX4_outSize := fun _ h => List.mem_cons_of_mem _ (List.mem_append_right _ h)
  have hf_41 := hts (.fieldLink RX4 41 "DerDeskModel" "code" "I") (by decide +kernel)
  have hf_112 := hts (.fieldLink RX4 112 "DerDeskModel" "written" "I") (by decide +kernel)
  have hP : va_P (dC, dI) vwCl (wM cA m0 m1 m2 m3 m4 m5 m6 m7 m8 m9 cd row sz1 nd tg st ln pa rd of ar dp at_ rs fd pl tx ou wr op on dn) s.heap := hP
  refine lv_aload_n hx hb dX4_outSize_0 rfl (lv_at hl 0 rfl) ?_
  refine lv_iconst (v := nI 0) hx hb dX4_outSize_1 (by decide) ?_
  refine va_put (D := (dC, dI)) (ci := 3) (v := .int (nI 0)) (ty := .int) (C := RX4) (T := TX4) (N := 22) hx hb hts hinX4 tyX4 tyX4_ok nmX4 hown hK hP hD hS 0 rfl rfl 0 (by decide) hf_41 (fun _ h9 => h9) rfl (by decide +kernel) rfl rfl (Nat.le_of_ble_eq_true rfl) dX4_outSize_2 (fun H locs hP hD hS => ?_)
  have hP : va_P (dC, dI) vwCl (wM cA m0 m1 m2 m3 m4 m5 m6 m7 m8 m9 (nI 0) row sz1 nd tg st ln pa rd of ar dp at_ rs fd pl tx ou wr op on dn) H := hP
  have hD : va_D A (wM cA m0 m1 m2 m3 m4 m5 m6 m7 m8 m9 (nI 0) row sz1 nd tg st ln pa rd of ar dp at_ rs fd pl tx ou wr op on dn) := hD
  refine lv_aload_n hx hb dX4_outSize_5 rfl (lv_at hl 0 rfl) ?_
  refine va_get (D := (dC, dI)) (ci := 3) (v := .int (nI wr)) (C := RX4) (T := TX4) (N := 22) hx hb hts hinX4 hown hK hP 0 rfl rfl 18 (by decide) hf_112 (fun _ h9 => h9) rfl dX4_outSize_6 ?_
  have hP9 : va_P (dC, dI) vwCl (vX4_outSize cA m0 m1 m2 m3 m4 m5 m6 m7 m8 m9 cd row sz1 nd tg st ln pa rd of ar dp at_ rs fd pl tx ou wr op on dn (nI 0)) _ := hP
  have hD9 : va_D A (vX4_outSize cA m0 m1 m2 m3 m4 m5 m6 m7 m8 m9 cd row sz1 nd tg st ln pa rd of ar dp at_ rs fd pl tx ou wr op on dn (nI 0)) := hD
  have hq9 : pX4_outSize m0 m1 m2 m3 m4 m5 m6 m7 m8 m9 cd row sz1 nd tg st ln pa rd of ar dp at_ rs fd pl tx ou wr op on dn (nI wr) (nI 0) := ⟨rfl, rfl⟩
  exact W.iret (v := nI wr) hx hb hr (fun t ht hW => ⟨⟨nI wr, (nI 0), rfl, hq9, by rw [ht]; exact hP9, va_K.moved hW.alike hK, hD9⟩, hS.F ht⟩) hS.2.2 dX4_outSize_9
abbrev pX4_depth (m0 : Nat) (m1 : Nat) (m2 : Nat) (m3 : Nat) (m4 : Nat) (m5 : Nat) (m6 : Nat) (m7 : Nat) (m8 : Nat) (m9 : Nat) (cd : Int32) (row : Nat → Nat) (sz1 : Nat) (nd : Nat) (tg : Nat → Nat) (st : Nat → Nat) (ln : Nat → Nat) (pa : Nat → Int32) (rd : Nat) (of : Int32) (ar : Nat → Nat) (dp : Nat) (at_ : Nat) (rs : Int32) (fd : Nat) (pl : Int32) (tx : Nat → Nat) (ou : Nat → Nat) (wr : Nat) (op : Nat → Nat) (on : Nat) (dn : Nat) : Int32 → Int32 → Prop := fun (r : Int32) (cd2 : Int32) => r = nI on ∧ cd2 = nI 0
abbrev vX4_depth (cA : ClassId) (m0 : Nat) (m1 : Nat) (m2 : Nat) (m3 : Nat) (m4 : Nat) (m5 : Nat) (m6 : Nat) (m7 : Nat) (m8 : Nat) (m9 : Nat) (cd : Int32) (row : Nat → Nat) (sz1 : Nat) (nd : Nat) (tg : Nat → Nat) (st : Nat → Nat) (ln : Nat → Nat) (pa : Nat → Int32) (rd : Nat) (of : Int32) (ar : Nat → Nat) (dp : Nat) (at_ : Nat) (rs : Int32) (fd : Nat) (pl : Int32) (tx : Nat → Nat) (ou : Nat → Nat) (wr : Nat) (op : Nat → Nat) (on : Nat) (dn : Nat) : Int32 → va_W := fun (cd2 : Int32) => wM cA m0 m1 m2 m3 m4 m5 m6 m7 m8 m9 cd2 row sz1 nd tg st ln pa rd of ar dp at_ rs fd pl tx ou wr op on dn
abbrev qX4_depth (dC : Nat → ClassId) (dI : Nat → Nat → Nat) (cA : ClassId) (A : Nat → Prop) (m0 : Nat) (m1 : Nat) (m2 : Nat) (m3 : Nat) (m4 : Nat) (m5 : Nat) (m6 : Nat) (m7 : Nat) (m8 : Nat) (m9 : Nat) (cd : Int32) (row : Nat → Nat) (sz1 : Nat) (nd : Nat) (tg : Nat → Nat) (st : Nat → Nat) (ln : Nat → Nat) (pa : Nat → Int32) (rd : Nat) (of : Int32) (ar : Nat → Nat) (dp : Nat) (at_ : Nat) (rs : Int32) (fd : Nat) (pl : Int32) (tx : Nat → Nat) (ou : Nat → Nat) (wr : Nat) (op : Nat → Nat) (on : Nat) (dn : Nat) : Array Value → State → Outcome → State → Prop := va_Qi (pX4_depth m0 m1 m2 m3 m4 m5 m6 m7 m8 m9 cd row sz1 nd tg st ln pa rd of ar dp at_ rs fd pl tx ou wr op on dn) (fun u => cAft dC dI cA A (vX4_depth cA m0 m1 m2 m3 m4 m5 m6 m7 m8 m9 cd row sz1 nd tg st ln pa rd of ar dp at_ rs fd pl tx ou wr op on dn u)) A
set_option maxHeartbeats 4000000 in
set_option maxRecDepth 100000 in
theorem k_X4_depth (l : Launch) (dC : Nat → ClassId) (dI : Nat → Nat → Nat) (cA : ClassId) (m0 : Nat) (m1 : Nat) (m2 : Nat) (m3 : Nat) (m4 : Nat) (m5 : Nat) (m6 : Nat) (m7 : Nat) (m8 : Nat) (m9 : Nat) (cd : Int32) (row : Nat → Nat) (sz1 : Nat) (nd : Nat) (tg : Nat → Nat) (st : Nat → Nat) (ln : Nat → Nat) (pa : Nat → Int32) (rd : Nat) (of : Int32) (ar : Nat → Nat) (dp : Nat) (at_ : Nat) (rs : Int32) (fd : Nat) (pl : Int32) (tx : Nat → Nat) (ou : Nat → Nat) (wr : Nat) (op : Nat → Nat) (on : Nat) (dn : Nat) (sz : Nat)  : Met l yX4_depth wsX4_depth ({ frames := 0, cells := 0, slots := 0, locals := 0 } : Room) (va_Pc [.ref m0] (cPre dC dI cA (wM cA m0 m1 m2 m3 m4 m5 m6 m7 m8 m9 cd row sz1 nd tg st ln pa rd of ar dp at_ rs fd pl tx ou wr op on dn) sz)) (qX4_depth dC dI cA (va_A (wM cA m0 m1 m2 m3 m4 m5 m6 m7 m8 m9 cd row sz1 nd tg st ln pa rd of ar dp at_ rs fd pl tx ou wr op on dn) sz) m0 m1 m2 m3 m4 m5 m6 m7 m8 m9 cd row sz1 nd tg st ln pa rd of ar dp at_ rs fd pl tx ou wr op on dn) 0 0 (va_A (wM cA m0 m1 m2 m3 m4 m5 m6 m7 m8 m9 cd row sz1 nd tg st ln pa rd of ar dp at_ rs fd pl tx ou wr op on dn) sz) := by
  refine Met.ofW (cc := cX4_depth) (maxL := 1) (ret := (some .int)) (by decide) rfl ?_
  intro p e s m args below meth c s₁ B hml hv
  obtain ⟨rfl, hsz, hP, hK, hD0⟩ := hv
  have hx := B.exec
  have hb := B.bytes
  have hr := B.returns
  have hts := atoms_spec (ws := wsX4_depth) B.pre
  have hown : s.vm.findClass RX4 = some m.cls := findClass_of_methodNamed B.named
  have hlocks := B.notSynchronized
  subst hsz
  have hD := hD0.self (sz := s.heap.size)
  generalize hAe : va_A (wM cA m0 m1 m2 m3 m4 m5 m6 m7 m8 m9 cd row sz1 nd tg st ln pa rd of ar dp at_ rs fd pl tx ou wr op on dn) s.heap.size = A at hD ⊢
  have hA : ∀ q : Nat, s.heap.size ≤ q → A q := fun q h => by rw [← hAe]; exact Or.inr h
  have hS : va_S A s.heap s.heap [] := va_S.rf
  have hl := lv_entry ([.ref m0]) (n := 1) (Nat.le_of_ble_eq_true rfl)
  rw [lg_entry_eq]
  generalize (lg_sl ([.ref m0]) ++ List.replicate (1 - (lg_sl ([.ref m0])).length) Slot.unset).toArray = ls at hl ⊢
  have hl : lv_has ls 1 [(0, .ref m0)] := hl
  have hinX4 : ∀ w ∈ wsX40, w ∈ wsX4_depth := fun _ h => List.mem_cons_of_mem _ (List.mem_append_right _ h)
  have hf_41 := hts (.fieldLink RX4 41 "DerDeskModel" "code" "I") (by decide +kernel)
  have hf_115 := hts (.fieldLink RX4 115 "DerDeskModel" "open" "I") (by decide +kernel)
  have hP : va_P (dC, dI) vwCl (wM cA m0 m1 m2 m3 m4 m5 m6 m7 m8 m9 cd row sz1 nd tg st ln pa rd of ar dp at_ rs fd pl tx ou wr op on dn) s.heap := hP
  refine lv_aload_n hx hb dX4_depth_0 rfl (lv_at hl 0 rfl) ?_
  refine lv_iconst (v := nI 0) hx hb dX4_depth_1 (by decide) ?_
  refine va_put (D := (dC, dI)) (ci := 3) (v := .int (nI 0)) (ty := .int) (C := RX4) (T := TX4) (N := 22) hx hb hts hinX4 tyX4 tyX4_ok nmX4 hown hK hP hD hS 0 rfl rfl 0 (by decide) hf_41 (fun _ h9 => h9) rfl (by decide +kernel) rfl rfl (Nat.le_of_ble_eq_true rfl) dX4_depth_2 (fun H locs hP hD hS => ?_)
  have hP : va_P (dC, dI) vwCl (wM cA m0 m1 m2 m3 m4 m5 m6 m7 m8 m9 (nI 0) row sz1 nd tg st ln pa rd of ar dp at_ rs fd pl tx ou wr op on dn) H := hP
  have hD : va_D A (wM cA m0 m1 m2 m3 m4 m5 m6 m7 m8 m9 (nI 0) row sz1 nd tg st ln pa rd of ar dp at_ rs fd pl tx ou wr op on dn) := hD
  refine lv_aload_n hx hb dX4_depth_5 rfl (lv_at hl 0 rfl) ?_
  refine va_get (D := (dC, dI)) (ci := 3) (v := .int (nI on)) (C := RX4) (T := TX4) (N := 22) hx hb hts hinX4 hown hK hP 0 rfl rfl 20 (by decide) hf_115 (fun _ h9 => h9) rfl dX4_depth_6 ?_
  have hP9 : va_P (dC, dI) vwCl (vX4_depth cA m0 m1 m2 m3 m4 m5 m6 m7 m8 m9 cd row sz1 nd tg st ln pa rd of ar dp at_ rs fd pl tx ou wr op on dn (nI 0)) _ := hP
  have hD9 : va_D A (vX4_depth cA m0 m1 m2 m3 m4 m5 m6 m7 m8 m9 cd row sz1 nd tg st ln pa rd of ar dp at_ rs fd pl tx ou wr op on dn (nI 0)) := hD
  have hq9 : pX4_depth m0 m1 m2 m3 m4 m5 m6 m7 m8 m9 cd row sz1 nd tg st ln pa rd of ar dp at_ rs fd pl tx ou wr op on dn (nI on) (nI 0) := ⟨rfl, rfl⟩
  exact W.iret (v := nI on) hx hb hr (fun t ht hW => ⟨⟨nI on, (nI 0), rfl, hq9, by rw [ht]; exact hP9, va_K.moved hW.alike hK, hD9⟩, hS.F ht⟩) hS.2.2 dX4_depth_9
abbrev pX4_out (m0 : Nat) (m1 : Nat) (m2 : Nat) (m3 : Nat) (m4 : Nat) (m5 : Nat) (m6 : Nat) (m7 : Nat) (m8 : Nat) (m9 : Nat) (cd : Int32) (row : Nat → Nat) (sz1 : Nat) (nd : Nat) (tg : Nat → Nat) (st : Nat → Nat) (ln : Nat → Nat) (pa : Nat → Int32) (rd : Nat) (of : Int32) (ar : Nat → Nat) (dp : Nat) (at_ : Nat) (rs : Int32) (fd : Nat) (pl : Int32) (tx : Nat → Nat) (ou : Nat → Nat) (wr : Nat) (op : Nat → Nat) (on : Nat) (dn : Nat) (i : Int32) : Int32 → Int32 → Prop := fun (r : Int32) (cd2 : Int32) => (r = if isNd wr i then nI (ou i.toNatClampNeg) else -1) ∧ cd2 = nI 0
abbrev vX4_out (cA : ClassId) (m0 : Nat) (m1 : Nat) (m2 : Nat) (m3 : Nat) (m4 : Nat) (m5 : Nat) (m6 : Nat) (m7 : Nat) (m8 : Nat) (m9 : Nat) (cd : Int32) (row : Nat → Nat) (sz1 : Nat) (nd : Nat) (tg : Nat → Nat) (st : Nat → Nat) (ln : Nat → Nat) (pa : Nat → Int32) (rd : Nat) (of : Int32) (ar : Nat → Nat) (dp : Nat) (at_ : Nat) (rs : Int32) (fd : Nat) (pl : Int32) (tx : Nat → Nat) (ou : Nat → Nat) (wr : Nat) (op : Nat → Nat) (on : Nat) (dn : Nat) (i : Int32) : Int32 → va_W := fun (cd2 : Int32) => wM cA m0 m1 m2 m3 m4 m5 m6 m7 m8 m9 cd2 row sz1 nd tg st ln pa rd of ar dp at_ rs fd pl tx ou wr op on dn
abbrev qX4_out (dC : Nat → ClassId) (dI : Nat → Nat → Nat) (cA : ClassId) (A : Nat → Prop) (m0 : Nat) (m1 : Nat) (m2 : Nat) (m3 : Nat) (m4 : Nat) (m5 : Nat) (m6 : Nat) (m7 : Nat) (m8 : Nat) (m9 : Nat) (cd : Int32) (row : Nat → Nat) (sz1 : Nat) (nd : Nat) (tg : Nat → Nat) (st : Nat → Nat) (ln : Nat → Nat) (pa : Nat → Int32) (rd : Nat) (of : Int32) (ar : Nat → Nat) (dp : Nat) (at_ : Nat) (rs : Int32) (fd : Nat) (pl : Int32) (tx : Nat → Nat) (ou : Nat → Nat) (wr : Nat) (op : Nat → Nat) (on : Nat) (dn : Nat) (i : Int32) : Array Value → State → Outcome → State → Prop := va_Qi (pX4_out m0 m1 m2 m3 m4 m5 m6 m7 m8 m9 cd row sz1 nd tg st ln pa rd of ar dp at_ rs fd pl tx ou wr op on dn i) (fun u => cAft dC dI cA A (vX4_out cA m0 m1 m2 m3 m4 m5 m6 m7 m8 m9 cd row sz1 nd tg st ln pa rd of ar dp at_ rs fd pl tx ou wr op on dn i u)) A
set_option maxHeartbeats 4000000 in
set_option maxRecDepth 100000 in
theorem k_X4_out (l : Launch) (dC : Nat → ClassId) (dI : Nat → Nat → Nat) (cA : ClassId) (m0 : Nat) (m1 : Nat) (m2 : Nat) (m3 : Nat) (m4 : Nat) (m5 : Nat) (m6 : Nat) (m7 : Nat) (m8 : Nat) (m9 : Nat) (cd : Int32) (row : Nat → Nat) (sz1 : Nat) (nd : Nat) (tg : Nat → Nat) (st : Nat → Nat) (ln : Nat → Nat) (pa : Nat → Int32) (rd : Nat) (of : Int32) (ar : Nat → Nat) (dp : Nat) (at_ : Nat) (rs : Int32) (fd : Nat) (pl : Int32) (tx : Nat → Nat) (ou : Nat → Nat) (wr : Nat) (op : Nat → Nat) (on : Nat) (dn : Nat) (i : Int32) (sz : Nat) (hwr : wr ≤ 300) : Met l yX4_out wsX4_out ({ frames := 0, cells := 0, slots := 0, locals := 0 } : Room) (va_Pc [.ref m0, .int i] (cPre dC dI cA (wM cA m0 m1 m2 m3 m4 m5 m6 m7 m8 m9 cd row sz1 nd tg st ln pa rd of ar dp at_ rs fd pl tx ou wr op on dn) sz)) (qX4_out dC dI cA (va_A (wM cA m0 m1 m2 m3 m4 m5 m6 m7 m8 m9 cd row sz1 nd tg st ln pa rd of ar dp at_ rs fd pl tx ou wr op on dn) sz) m0 m1 m2 m3 m4 m5 m6 m7 m8 m9 cd row sz1 nd tg st ln pa rd of ar dp at_ rs fd pl tx ou wr op on dn i) 0 0 (va_A (wM cA m0 m1 m2 m3 m4 m5 m6 m7 m8 m9 cd row sz1 nd tg st ln pa rd of ar dp at_ rs fd pl tx ou wr op on dn) sz) := by
  refine Met.ofW (cc := cX4_out) (maxL := 2) (ret := (some .int)) (by decide) rfl ?_
  intro p e s m args below meth c s₁ B hml hv
  obtain ⟨rfl, hsz, hP, hK, hD0⟩ := hv
  have hx := B.exec
  have hb := B.bytes
  have hr := B.returns
  have hts := atoms_spec (ws := wsX4_out) B.pre
  have hown : s.vm.findClass RX4 = some m.cls := findClass_of_methodNamed B.named
  have hlocks := B.notSynchronized
  subst hsz
  have hD := hD0.self (sz := s.heap.size)
  generalize hAe : va_A (wM cA m0 m1 m2 m3 m4 m5 m6 m7 m8 m9 cd row sz1 nd tg st ln pa rd of ar dp at_ rs fd pl tx ou wr op on dn) s.heap.size = A at hD ⊢
  have hA : ∀ q : Nat, s.heap.size ≤ q → A q := fun q h => by rw [← hAe]; exact Or.inr h
  have hS : va_S A s.heap s.heap [] := va_S.rf
  have hl := lv_entry ([.ref m0, .int i]) (n := 2) (Nat.le_of_ble_eq_true rfl)
  rw [lg_entry_eq]
  generalize (lg_sl ([.ref m0, .int i]) ++ List.replicate (2 - (lg_sl ([.ref m0, .int i])).length) Slot.unset).toArray = ls at hl ⊢
  have hl : lv_has ls 2 [(0, .ref m0), (1, .int i)] := hl
  have hinX4 : ∀ w ∈ wsX40, w ∈ wsX4_out := fun _ h => List.mem_cons_of_mem _ (List.mem_append_right _ h)
  have hf_35 := hts (.fieldLink RX4 35 "DerDeskModel" "output" "[I") (by decide +kernel)
  have hf_41 := hts (.fieldLink RX4 41 "DerDeskModel" "code" "I") (by decide +kernel)
  have hf_112 := hts (.fieldLink RX4 112 "DerDeskModel" "written" "I") (by decide +kernel)
  have hP : va_P (dC, dI) vwCl (wM cA m0 m1 m2 m3 m4 m5 m6 m7 m8 m9 cd row sz1 nd tg st ln pa rd of ar dp at_ rs fd pl tx ou wr op on dn) s.heap := hP
  refine lv_aload_n hx hb dX4_out_0 rfl (lv_at hl 0 rfl) ?_
  refine lv_iconst (v := nI 0) hx hb dX4_out_1 (by decide) ?_
  refine va_put (D := (dC, dI)) (ci := 3) (v := .int (nI 0)) (ty := .int) (C := RX4) (T := TX4) (N := 22) hx hb hts hinX4 tyX4 tyX4_ok nmX4 hown hK hP hD hS 0 rfl rfl 0 (by decide) hf_41 (fun _ h9 => h9) rfl (by decide +kernel) rfl rfl (Nat.le_of_ble_eq_true rfl) dX4_out_2 (fun H locs hP hD hS => ?_)
  have hP : va_P (dC, dI) vwCl (wM cA m0 m1 m2 m3 m4 m5 m6 m7 m8 m9 (nI 0) row sz1 nd tg st ln pa rd of ar dp at_ rs fd pl tx ou wr op on dn) H := hP
  have hD : va_D A (wM cA m0 m1 m2 m3 m4 m5 m6 m7 m8 m9 (nI 0) row sz1 nd tg st ln pa rd of ar dp at_ rs fd pl tx ou wr op on dn) := hD
  refine lv_iload_n hx hb dX4_out_5 rfl (lv_at hl 1 rfl) ?_
  refine lv_if_lt (tgt := 26) hx hb dX4_out_6 (by decide) (fun c_1 => ?_) (fun c_1 => ?_)
  · refine lv_iconst (v := (-1)) hx hb dX4_out_26 (by decide) ?_
    have hP9 : va_P (dC, dI) vwCl (vX4_out cA m0 m1 m2 m3 m4 m5 m6 m7 m8 m9 cd row sz1 nd tg st ln pa rd of ar dp at_ rs fd pl tx ou wr op on dn i (nI 0)) _ := hP
    have hD9 : va_D A (vX4_out cA m0 m1 m2 m3 m4 m5 m6 m7 m8 m9 cd row sz1 nd tg st ln pa rd of ar dp at_ rs fd pl tx ou wr op on dn i (nI 0)) := hD
    have hq9 : pX4_out m0 m1 m2 m3 m4 m5 m6 m7 m8 m9 cd row sz1 nd tg st ln pa rd of ar dp at_ rs fd pl tx ou wr op on dn i ((-1)) (nI 0) := ⟨(if_neg (fun h => by first | exact absurd (by assumption) h.1 | exact absurd h.2 (Int32.not_lt.mpr (by assumption)))).symm, rfl⟩
    exact W.iret (v := (-1)) hx hb hr (fun t ht hW => ⟨⟨(-1), (nI 0), rfl, hq9, by rw [ht]; exact hP9, va_K.moved hW.alike hK, hD9⟩, hS.F ht⟩) hS.2.2 dX4_out_27
  · refine lv_iload_n hx hb dX4_out_9 rfl (lv_at hl 1 rfl) ?_
    refine lv_aload_n hx hb dX4_out_10 rfl (lv_at hl 0 rfl) ?_
    refine va_get (D := (dC, dI)) (ci := 3) (v := .int (nI wr)) (C := RX4) (T := TX4) (N := 22) hx hb hts hinX4 hown hK hP 0 rfl rfl 18 (by decide) hf_112 (fun _ h9 => h9) rfl dX4_out_11 ?_
    refine lv_icmp_ge (tgt := 26) hx hb dX4_out_14 (by decide) (fun c_2 => ?_) (fun c_2 => ?_)
    · refine lv_iconst (v := (-1)) hx hb dX4_out_26 (by decide) ?_
      have hP9 : va_P (dC, dI) vwCl (vX4_out cA m0 m1 m2 m3 m4 m5 m6 m7 m8 m9 cd row sz1 nd tg st ln pa rd of ar dp at_ rs fd pl tx ou wr op on dn i (nI 0)) _ := hP
      have hD9 : va_D A (vX4_out cA m0 m1 m2 m3 m4 m5 m6 m7 m8 m9 cd row sz1 nd tg st ln pa rd of ar dp at_ rs fd pl tx ou wr op on dn i (nI 0)) := hD
      have hq9 : pX4_out m0 m1 m2 m3 m4 m5 m6 m7 m8 m9 cd row sz1 nd tg st ln pa rd of ar dp at_ rs fd pl tx ou wr op on dn i ((-1)) (nI 0) := ⟨(if_neg (fun h => by first | exact absurd (by assumption) h.1 | exact absurd h.2 (Int32.not_lt.mpr (by assumption)))).symm, rfl⟩
      exact W.iret (v := (-1)) hx hb hr (fun t ht hW => ⟨⟨(-1), (nI 0), rfl, hq9, by rw [ht]; exact hP9, va_K.moved hW.alike hK, hD9⟩, hS.F ht⟩) hS.2.2 dX4_out_27
    · refine lv_aload_n hx hb dX4_out_17 rfl (lv_at hl 0 rfl) ?_
      refine va_get (D := (dC, dI)) (ci := 3) (v := .ref m8) (C := RX4) (T := TX4) (N := 22) hx hb hts hinX4 hown hK hP 0 rfl rfl 17 (by decide) hf_35 (fun _ h9 => h9) rfl dX4_out_18 ?_
      refine lv_iload_n hx hb dX4_out_21 rfl (lv_at hl 1 rfl) ?_
      have hlt : i < nI wr := Int32.not_le.mp (by assumption)
      have hnl := cl_lt (by assumption) (by omega) hlt
      refine hl_top (cl_of (by assumption)) ?_
      refine hl_iald hx hb hK hP 8 0 rfl rfl (by omega) (by decide) dX4_out_22 ?_
      refine lv_goto (tgt := 27) hx hb dX4_out_23 (by decide) ?_
      have hP9 : va_P (dC, dI) vwCl (vX4_out cA m0 m1 m2 m3 m4 m5 m6 m7 m8 m9 cd row sz1 nd tg st ln pa rd of ar dp at_ rs fd pl tx ou wr op on dn i (nI 0)) _ := hP
      have hD9 : va_D A (vX4_out cA m0 m1 m2 m3 m4 m5 m6 m7 m8 m9 cd row sz1 nd tg st ln pa rd of ar dp at_ rs fd pl tx ou wr op on dn i (nI 0)) := hD
      have hq9 : pX4_out m0 m1 m2 m3 m4 m5 m6 m7 m8 m9 cd row sz1 nd tg st ln pa rd of ar dp at_ rs fd pl tx ou wr op on dn i (nI (ou i.toNatClampNeg)) (nI 0) := ⟨(if_pos ⟨by assumption, hlt⟩).symm, rfl⟩
      exact W.iret (v := nI (ou i.toNatClampNeg)) hx hb hr (fun t ht hW => ⟨⟨nI (ou i.toNatClampNeg), (nI 0), rfl, hq9, by rw [ht]; exact hP9, va_K.moved hW.alike hK, hD9⟩, hS.F ht⟩) hS.2.2 dX4_out_27
abbrev pX4_openTag (m0 : Nat) (m1 : Nat) (m2 : Nat) (m3 : Nat) (m4 : Nat) (m5 : Nat) (m6 : Nat) (m7 : Nat) (m8 : Nat) (m9 : Nat) (cd : Int32) (row : Nat → Nat) (sz1 : Nat) (nd : Nat) (tg : Nat → Nat) (st : Nat → Nat) (ln : Nat → Nat) (pa : Nat → Int32) (rd : Nat) (of : Int32) (ar : Nat → Nat) (dp : Nat) (at_ : Nat) (rs : Int32) (fd : Nat) (pl : Int32) (tx : Nat → Nat) (ou : Nat → Nat) (wr : Nat) (op : Nat → Nat) (on : Nat) (dn : Nat) : Int32 → Unit → Prop := fun (r : Int32) (u : Unit) => (on = 0 ∧ r = -1) ∨ (0 < on ∧ r = nI (ou (op (on - 1))))
abbrev vX4_openTag (cA : ClassId) (m0 : Nat) (m1 : Nat) (m2 : Nat) (m3 : Nat) (m4 : Nat) (m5 : Nat) (m6 : Nat) (m7 : Nat) (m8 : Nat) (m9 : Nat) (cd : Int32) (row : Nat → Nat) (sz1 : Nat) (nd : Nat) (tg : Nat → Nat) (st : Nat → Nat) (ln : Nat → Nat) (pa : Nat → Int32) (rd : Nat) (of : Int32) (ar : Nat → Nat) (dp : Nat) (at_ : Nat) (rs : Int32) (fd : Nat) (pl : Int32) (tx : Nat → Nat) (ou : Nat → Nat) (wr : Nat) (op : Nat → Nat) (on : Nat) (dn : Nat) : Unit → va_W := fun (u : Unit) => wM cA m0 m1 m2 m3 m4 m5 m6 m7 m8 m9 cd row sz1 nd tg st ln pa rd of ar dp at_ rs fd pl tx ou wr op on dn
abbrev qX4_openTag (dC : Nat → ClassId) (dI : Nat → Nat → Nat) (cA : ClassId) (A : Nat → Prop) (m0 : Nat) (m1 : Nat) (m2 : Nat) (m3 : Nat) (m4 : Nat) (m5 : Nat) (m6 : Nat) (m7 : Nat) (m8 : Nat) (m9 : Nat) (cd : Int32) (row : Nat → Nat) (sz1 : Nat) (nd : Nat) (tg : Nat → Nat) (st : Nat → Nat) (ln : Nat → Nat) (pa : Nat → Int32) (rd : Nat) (of : Int32) (ar : Nat → Nat) (dp : Nat) (at_ : Nat) (rs : Int32) (fd : Nat) (pl : Int32) (tx : Nat → Nat) (ou : Nat → Nat) (wr : Nat) (op : Nat → Nat) (on : Nat) (dn : Nat) : Array Value → State → Outcome → State → Prop := va_Qi (pX4_openTag m0 m1 m2 m3 m4 m5 m6 m7 m8 m9 cd row sz1 nd tg st ln pa rd of ar dp at_ rs fd pl tx ou wr op on dn) (fun u => cAft dC dI cA A (vX4_openTag cA m0 m1 m2 m3 m4 m5 m6 m7 m8 m9 cd row sz1 nd tg st ln pa rd of ar dp at_ rs fd pl tx ou wr op on dn u)) A
set_option maxHeartbeats 4000000 in
set_option maxRecDepth 100000 in
theorem k_X4_openTag (l : Launch) (dC : Nat → ClassId) (dI : Nat → Nat → Nat) (cA : ClassId) (m0 : Nat) (m1 : Nat) (m2 : Nat) (m3 : Nat) (m4 : Nat) (m5 : Nat) (m6 : Nat) (m7 : Nat) (m8 : Nat) (m9 : Nat) (cd : Int32) (row : Nat → Nat) (sz1 : Nat) (nd : Nat) (tg : Nat → Nat) (st : Nat → Nat) (ln : Nat → Nat) (pa : Nat → Int32) (rd : Nat) (of : Int32) (ar : Nat → Nat) (dp : Nat) (at_ : Nat) (rs : Int32) (fd : Nat) (pl : Int32) (tx : Nat → Nat) (ou : Nat → Nat) (wr : Nat) (op : Nat → Nat) (on : Nat) (dn : Nat) (sz : Nat) (hou : ∀ j, ou j < 256) (hwr : wr ≤ 300) (hon : on ≤ 16) (hop : ∀ j, j < on → op j < wr) : Met l yX4_openTag wsX4_openTag ({ frames := 0, cells := 0, slots := 0, locals := 0 } : Room) (va_Pc [.ref m0] (cPre dC dI cA (wM cA m0 m1 m2 m3 m4 m5 m6 m7 m8 m9 cd row sz1 nd tg st ln pa rd of ar dp at_ rs fd pl tx ou wr op on dn) sz)) (qX4_openTag dC dI cA (va_A (wM cA m0 m1 m2 m3 m4 m5 m6 m7 m8 m9 cd row sz1 nd tg st ln pa rd of ar dp at_ rs fd pl tx ou wr op on dn) sz) m0 m1 m2 m3 m4 m5 m6 m7 m8 m9 cd row sz1 nd tg st ln pa rd of ar dp at_ rs fd pl tx ou wr op on dn) 0 0 (va_A (wM cA m0 m1 m2 m3 m4 m5 m6 m7 m8 m9 cd row sz1 nd tg st ln pa rd of ar dp at_ rs fd pl tx ou wr op on dn) sz) := by
  refine Met.ofW (cc := cX4_openTag) (maxL := 1) (ret := (some .int)) (by decide) rfl ?_
  intro p e s m args below meth c s₁ B hml hv
  obtain ⟨rfl, hsz, hP, hK, hD0⟩ := hv
  have hx := B.exec
  have hb := B.bytes
  have hr := B.returns
  have hts := atoms_spec (ws := wsX4_openTag) B.pre
  have hown : s.vm.findClass RX4 = some m.cls := findClass_of_methodNamed B.named
  have hlocks := B.notSynchronized
  subst hsz
  have hD := hD0.self (sz := s.heap.size)
  generalize hAe : va_A (wM cA m0 m1 m2 m3 m4 m5 m6 m7 m8 m9 cd row sz1 nd tg st ln pa rd of ar dp at_ rs fd pl tx ou wr op on dn) s.heap.size = A at hD ⊢
  have hA : ∀ q : Nat, s.heap.size ≤ q → A q := fun q h => by rw [← hAe]; exact Or.inr h
  have hS : va_S A s.heap s.heap [] := va_S.rf
  have hl := lv_entry ([.ref m0]) (n := 1) (Nat.le_of_ble_eq_true rfl)
  rw [lg_entry_eq]
  generalize (lg_sl ([.ref m0]) ++ List.replicate (1 - (lg_sl ([.ref m0])).length) Slot.unset).toArray = ls at hl ⊢
  have hl : lv_has ls 1 [(0, .ref m0)] := hl
  have hinX4 : ∀ w ∈ wsX40, w ∈ wsX4_openTag := fun _ h => List.mem_cons_of_mem _ (List.mem_append_right _ h)
  have hf_35 := hts (.fieldLink RX4 35 "DerDeskModel" "output" "[I") (by decide +kernel)
  have hf_38 := hts (.fieldLink RX4 38 "DerDeskModel" "opens" "[I") (by decide +kernel)
  have hf_115 := hts (.fieldLink RX4 115 "DerDeskModel" "open" "I") (by decide +kernel)
  have hP : va_P (dC, dI) vwCl (wM cA m0 m1 m2 m3 m4 m5 m6 m7 m8 m9 cd row sz1 nd tg st ln pa rd of ar dp at_ rs fd pl tx ou wr op on dn) s.heap := hP
  refine lv_aload_n hx hb dX4_openTag_0 rfl (lv_at hl 0 rfl) ?_
  refine va_get (D := (dC, dI)) (ci := 3) (v := .int (nI on)) (C := RX4) (T := TX4) (N := 22) hx hb hts hinX4 hown hK hP 0 rfl rfl 20 (by decide) hf_115 (fun _ h9 => h9) rfl dX4_openTag_1 ?_
  refine hl_if_ne (tgt := 11) hx hb dX4_openTag_4 (by decide) (by omega) (fun c_1 => ?_) (fun c_1 => ?_)
  · refine lv_aload_n hx hb dX4_openTag_11 rfl (lv_at hl 0 rfl) ?_
    refine va_get (D := (dC, dI)) (ci := 3) (v := .ref m8) (C := RX4) (T := TX4) (N := 22) hx hb hts hinX4 hown hK hP 0 rfl rfl 17 (by decide) hf_35 (fun _ h9 => h9) rfl dX4_openTag_12 ?_
    refine lv_aload_n hx hb dX4_openTag_15 rfl (lv_at hl 0 rfl) ?_
    refine va_get (D := (dC, dI)) (ci := 3) (v := .ref m9) (C := RX4) (T := TX4) (N := 22) hx hb hts hinX4 hown hK hP 0 rfl rfl 19 (by decide) hf_38 (fun _ h9 => h9) rfl dX4_openTag_16 ?_
    refine lv_aload_n hx hb dX4_openTag_19 rfl (lv_at hl 0 rfl) ?_
    refine va_get (D := (dC, dI)) (ci := 3) (v := .int (nI on)) (C := RX4) (T := TX4) (N := 22) hx hb hts hinX4 hown hK hP 0 rfl rfl 20 (by decide) hf_115 (fun _ h9 => h9) rfl dX4_openTag_20 ?_
    refine lv_iconst (v := nI 1) hx hb dX4_openTag_23 (by decide) ?_
    refine hl_isub hx hb (by omega) dX4_openTag_24 ?_
    refine hl_iald hx hb hK hP 9 0 rfl rfl (by omega) (by decide) dX4_openTag_25 ?_
    refine hl_iald hx hb hK hP 8 0 rfl rfl (by have := hop (on - 1) (by omega); omega) (by decide) dX4_openTag_26 ?_
    have hP9 : va_P (dC, dI) vwCl (vX4_openTag cA m0 m1 m2 m3 m4 m5 m6 m7 m8 m9 cd row sz1 nd tg st ln pa rd of ar dp at_ rs fd pl tx ou wr op on dn ()) _ := hP
    have hD9 : va_D A (vX4_openTag cA m0 m1 m2 m3 m4 m5 m6 m7 m8 m9 cd row sz1 nd tg st ln pa rd of ar dp at_ rs fd pl tx ou wr op on dn ()) := hD
    have hq9 : pX4_openTag m0 m1 m2 m3 m4 m5 m6 m7 m8 m9 cd row sz1 nd tg st ln pa rd of ar dp at_ rs fd pl tx ou wr op on dn (nI (ou (op (on - 1)))) () := Or.inr ⟨by omega, rfl⟩
    exact W.iret (v := nI (ou (op (on - 1)))) hx hb hr (fun t ht hW => ⟨⟨nI (ou (op (on - 1))), (), rfl, hq9, by rw [ht]; exact hP9, va_K.moved hW.alike hK, hD9⟩, hS.F ht⟩) hS.2.2 dX4_openTag_27
  · refine lv_iconst (v := (-1)) hx hb dX4_openTag_7 (by decide) ?_
    refine lv_goto (tgt := 27) hx hb dX4_openTag_8 (by decide) ?_
    have hP9 : va_P (dC, dI) vwCl (vX4_openTag cA m0 m1 m2 m3 m4 m5 m6 m7 m8 m9 cd row sz1 nd tg st ln pa rd of ar dp at_ rs fd pl tx ou wr op on dn ()) _ := hP
    have hD9 : va_D A (vX4_openTag cA m0 m1 m2 m3 m4 m5 m6 m7 m8 m9 cd row sz1 nd tg st ln pa rd of ar dp at_ rs fd pl tx ou wr op on dn ()) := hD
    have hq9 : pX4_openTag m0 m1 m2 m3 m4 m5 m6 m7 m8 m9 cd row sz1 nd tg st ln pa rd of ar dp at_ rs fd pl tx ou wr op on dn ((-1)) () := Or.inl ⟨by assumption, rfl⟩
    exact W.iret (v := (-1)) hx hb hr (fun t ht hW => ⟨⟨(-1), (), rfl, hq9, by rw [ht]; exact hP9, va_K.moved hW.alike hK, hD9⟩, hS.F ht⟩) hS.2.2 dX4_openTag_27
abbrev pX4_begin (m0 : Nat) (m1 : Nat) (m2 : Nat) (m3 : Nat) (m4 : Nat) (m5 : Nat) (m6 : Nat) (m7 : Nat) (m8 : Nat) (m9 : Nat) (cd : Int32) (row : Nat → Nat) (sz1 : Nat) (nd : Nat) (tg : Nat → Nat) (st : Nat → Nat) (ln : Nat → Nat) (pa : Nat → Int32) (rd : Nat) (of : Int32) (ar : Nat → Nat) (dp : Nat) (at_ : Nat) (rs : Int32) (fd : Nat) (pl : Int32) (tx : Nat → Nat) (ou : Nat → Nat) (wr : Nat) (op : Nat → Nat) (on : Nat) (dn : Nat) (tag : Int32) : Int32 → Int32 × (Nat → Nat) × Nat × (Nat → Nat) × Nat → Prop := fun (r : Int32) (u : Int32 × (Nat → Nat) × Nat × (Nat → Nat) × Nat) => match u with | (cd2, ou2, wr2, op2, on2) => (r = begC tag on wr ou op ∧ ((begC tag on wr ou op = 0 ∧ isId tag ∧ canH on wr ou op ∧ on < 16 ∧ wr < 300 ∧ ou2 = va_up ou wr tag.toNatClampNeg ∧ wr2 = wr + 1 ∧ op2 = va_up op on wr ∧ on2 = on + 1) ∨ (begC tag on wr ou op ≠ 0 ∧ ou2 = ou ∧ wr2 = wr ∧ op2 = op ∧ on2 = on))) ∧ cd2 = nI 0
abbrev vX4_begin (cA : ClassId) (m0 : Nat) (m1 : Nat) (m2 : Nat) (m3 : Nat) (m4 : Nat) (m5 : Nat) (m6 : Nat) (m7 : Nat) (m8 : Nat) (m9 : Nat) (cd : Int32) (row : Nat → Nat) (sz1 : Nat) (nd : Nat) (tg : Nat → Nat) (st : Nat → Nat) (ln : Nat → Nat) (pa : Nat → Int32) (rd : Nat) (of : Int32) (ar : Nat → Nat) (dp : Nat) (at_ : Nat) (rs : Int32) (fd : Nat) (pl : Int32) (tx : Nat → Nat) (ou : Nat → Nat) (wr : Nat) (op : Nat → Nat) (on : Nat) (dn : Nat) (tag : Int32) : Int32 × (Nat → Nat) × Nat × (Nat → Nat) × Nat → va_W := fun (u : Int32 × (Nat → Nat) × Nat × (Nat → Nat) × Nat) => match u with | (cd2, ou2, wr2, op2, on2) => wM cA m0 m1 m2 m3 m4 m5 m6 m7 m8 m9 cd2 row sz1 nd tg st ln pa rd of ar dp at_ rs fd pl tx ou2 wr2 op2 on2 dn
abbrev qX4_begin (dC : Nat → ClassId) (dI : Nat → Nat → Nat) (cA : ClassId) (A : Nat → Prop) (m0 : Nat) (m1 : Nat) (m2 : Nat) (m3 : Nat) (m4 : Nat) (m5 : Nat) (m6 : Nat) (m7 : Nat) (m8 : Nat) (m9 : Nat) (cd : Int32) (row : Nat → Nat) (sz1 : Nat) (nd : Nat) (tg : Nat → Nat) (st : Nat → Nat) (ln : Nat → Nat) (pa : Nat → Int32) (rd : Nat) (of : Int32) (ar : Nat → Nat) (dp : Nat) (at_ : Nat) (rs : Int32) (fd : Nat) (pl : Int32) (tx : Nat → Nat) (ou : Nat → Nat) (wr : Nat) (op : Nat → Nat) (on : Nat) (dn : Nat) (tag : Int32) : Array Value → State → Outcome → State → Prop := va_Qi (pX4_begin m0 m1 m2 m3 m4 m5 m6 m7 m8 m9 cd row sz1 nd tg st ln pa rd of ar dp at_ rs fd pl tx ou wr op on dn tag) (fun u => cAft dC dI cA A (vX4_begin cA m0 m1 m2 m3 m4 m5 m6 m7 m8 m9 cd row sz1 nd tg st ln pa rd of ar dp at_ rs fd pl tx ou wr op on dn tag u)) A
set_option maxHeartbeats 4000000 in
set_option maxRecDepth 100000 in
theorem k_X4_begin (l : Launch) (dC : Nat → ClassId) (dI : Nat → Nat → Nat) (cA : ClassId) (m0 : Nat) (m1 : Nat) (m2 : Nat) (m3 : Nat) (m4 : Nat) (m5 : Nat) (m6 : Nat) (m7 : Nat) (m8 : Nat) (m9 : Nat) (cd : Int32) (row : Nat → Nat) (sz1 : Nat) (nd : Nat) (tg : Nat → Nat) (st : Nat → Nat) (ln : Nat → Nat) (pa : Nat → Int32) (rd : Nat) (of : Int32) (ar : Nat → Nat) (dp : Nat) (at_ : Nat) (rs : Int32) (fd : Nat) (pl : Int32) (tx : Nat → Nat) (ou : Nat → Nat) (wr : Nat) (op : Nat → Nat) (on : Nat) (dn : Nat) (tag : Int32) (sz : Nat) (hou : ∀ j, ou j < 256) (hwr : wr ≤ 300) (hon : on ≤ 16) (hop : ∀ j, j < on → op j < wr) (hdn : dn = if on = 0 ∧ 0 < wr then 1 else 0) : Met l yX4_begin wsX4_begin ({ frames := 1, cells := 0, slots := 0, locals := 20 } : Room) (va_Pc [.ref m0, .int tag] (cPre dC dI cA (wM cA m0 m1 m2 m3 m4 m5 m6 m7 m8 m9 cd row sz1 nd tg st ln pa rd of ar dp at_ rs fd pl tx ou wr op on dn) sz)) (qX4_begin dC dI cA (va_A (wM cA m0 m1 m2 m3 m4 m5 m6 m7 m8 m9 cd row sz1 nd tg st ln pa rd of ar dp at_ rs fd pl tx ou wr op on dn) sz) m0 m1 m2 m3 m4 m5 m6 m7 m8 m9 cd row sz1 nd tg st ln pa rd of ar dp at_ rs fd pl tx ou wr op on dn tag) 0 0 (va_A (wM cA m0 m1 m2 m3 m4 m5 m6 m7 m8 m9 cd row sz1 nd tg st ln pa rd of ar dp at_ rs fd pl tx ou wr op on dn) sz) := by
  refine Met.ofW (cc := cX4_begin) (maxL := 2) (ret := (some .int)) (by decide) rfl ?_
  intro p e s m args below meth c s₁ B hml hv
  obtain ⟨rfl, hsz, hP, hK, hD0⟩ := hv
  have hx := B.exec
  have hb := B.bytes
  have hr := B.returns
  have hts := atoms_spec (ws := wsX4_begin) B.pre
  have hown : s.vm.findClass RX4 = some m.cls := findClass_of_methodNamed B.named
  have hlocks := B.notSynchronized
  subst hsz
  have hD := hD0.self (sz := s.heap.size)
  generalize hAe : va_A (wM cA m0 m1 m2 m3 m4 m5 m6 m7 m8 m9 cd row sz1 nd tg st ln pa rd of ar dp at_ rs fd pl tx ou wr op on dn) s.heap.size = A at hD ⊢
  have hA : ∀ q : Nat, s.heap.size ≤ q → A q := fun q h => by rw [← hAe]; exact Or.inr h
  have hS : va_S A s.heap s.heap [] := va_S.rf
  have hl := lv_entry ([.ref m0, .int tag]) (n := 2) (Nat.le_of_ble_eq_true rfl)
  rw [lg_entry_eq]
  generalize (lg_sl ([.ref m0, .int tag]) ++ List.replicate (2 - (lg_sl ([.ref m0, .int tag])).length) Slot.unset).toArray = ls at hl ⊢
  have hl : lv_has ls 2 [(0, .ref m0), (1, .int tag)] := hl
  have hinX4 : ∀ w ∈ wsX40, w ∈ wsX4_begin := fun _ h => List.mem_cons_of_mem _ (List.mem_append_right _ h)
  have hf_35 := hts (.fieldLink RX4 35 "DerDeskModel" "output" "[I") (by decide +kernel)
  have hf_38 := hts (.fieldLink RX4 38 "DerDeskModel" "opens" "[I") (by decide +kernel)
  have hf_41 := hts (.fieldLink RX4 41 "DerDeskModel" "code" "I") (by decide +kernel)
  have hf_112 := hts (.fieldLink RX4 112 "DerDeskModel" "written" "I") (by decide +kernel)
  have hf_115 := hts (.fieldLink RX4 115 "DerDeskModel" "open" "I") (by decide +kernel)
  have hf_118 := hts (.fieldLink RX4 118 "DerDeskModel" "done" "Z") (by decide +kernel)
  have hP : va_P (dC, dI) vwCl (wM cA m0 m1 m2 m3 m4 m5 m6 m7 m8 m9 cd row sz1 nd tg st ln pa rd of ar dp at_ rs fd pl tx ou wr op on dn) s.heap := hP
  have hdc : (dn = 1 ∧ on = 0 ∧ 0 < wr) ∨ (dn = 0 ∧ ¬ (on = 0 ∧ 0 < wr)) := by rw [hdn]; split <;> omega
  refine lv_aload_n hx hb dX4_begin_0 rfl (lv_at hl 0 rfl) ?_
  refine lv_iconst (v := nI 0) hx hb dX4_begin_1 (by decide) ?_
  refine va_put (D := (dC, dI)) (ci := 3) (v := .int (nI 0)) (ty := .int) (C := RX4) (T := TX4) (N := 22) hx hb hts hinX4 tyX4 tyX4_ok nmX4 hown hK hP hD hS 0 rfl rfl 0 (by decide) hf_41 (fun _ h9 => h9) rfl (by decide +kernel) rfl rfl (Nat.le_of_ble_eq_true rfl) dX4_begin_2 (fun H locs hP hD hS => ?_)
  have hP : va_P (dC, dI) vwCl (wM cA m0 m1 m2 m3 m4 m5 m6 m7 m8 m9 (nI 0) row sz1 nd tg st ln pa rd of ar dp at_ rs fd pl tx ou wr op on dn) H := hP
  have hD : va_D A (wM cA m0 m1 m2 m3 m4 m5 m6 m7 m8 m9 (nI 0) row sz1 nd tg st ln pa rd of ar dp at_ rs fd pl tx ou wr op on dn) := hD
  refine lv_iload_n hx hb dX4_begin_5 rfl (lv_at hl 1 rfl) ?_
  refine cl_Si (As := [.int tag]) (rest := []) (wr := [(m0, .inr (3, [.int (nI 0), .ref m1, .int (nI sz1), .int (nI nd), .ref m2, .ref m3, .ref m4, .ref m5, .int (nI rd), .int of, .ref m6, .int (nI dp), .int (nI at_), .int rs, .int (nI fd), .int pl, .ref m7, .ref m8, .int (nI wr), .ref m9, .int (nI on), .int (nI dn)])), (m1, .inl (cA, 300, .inl (nA row))), (m2, .inl (cA, 64, .inl (nA tg))), (m3, .inl (cA, 64, .inl (nA st))), (m4, .inl (cA, 64, .inl (nA ln))), (m5, .inl (cA, 64, .inl (pa))), (m6, .inl (cA, 17, .inl (nA ar))), (m7, .inl (cA, 300, .inl (nA tx))), (m8, .inl (cA, 300, .inl (nA ou))), (m9, .inl (cA, 16, .inl (nA op)))]) ⟨hx, hb, hml, hown, hts⟩ (k_X4_isTag l dC dI cA tag _ ) (va_cwS 1 hts gX4_begin_X4_isTag rfl rfl rfl (by decide +kernel) ⟨Nat.le_of_ble_eq_true rfl, Nat.le_of_ble_eq_true rfl⟩) hK hP hD hS hA [] [0, 1, 2, 3, 4, 5, 6, 7, 8, 9] rfl rfl (by decide) (by decide) (by decide) rfl hl.1 rfl (Nat.le_of_ble_eq_true rfl) dX4_begin_6 ⟨Nat.le_of_ble_eq_true rfl, Nat.le_of_ble_eq_true rfl⟩ (fun r_1 u_1 H locs hw_1 hP hD hS => ?_)
  have hP : va_P (dC, dI) vwCl (wM cA m0 m1 m2 m3 m4 m5 m6 m7 m8 m9 (nI 0) row sz1 nd tg st ln pa rd of ar dp at_ rs fd pl tx ou wr op on dn) H := hP
  have hD : va_D A (wM cA m0 m1 m2 m3 m4 m5 m6 m7 m8 m9 (nI 0) row sz1 nd tg st ln pa rd of ar dp at_ rs fd pl tx ou wr op on dn) := hD
  have hw_1 : r_1 = if isId tag then 1 else 0 := hw_1
  have hw_1 := hw_1.symm
  subst hw_1
  refine hl_ifb_ne (tgt := 14) hx hb dX4_begin_9 (by decide) (fun c_2 => ?_) (fun c_2 => ?_)
  · refine lv_aload_n hx hb dX4_begin_14 rfl (lv_at hl 0 rfl) ?_
    refine va_get (D := (dC, dI)) (ci := 3) (v := .int (nI on)) (C := RX4) (T := TX4) (N := 22) hx hb hts hinX4 hown hK hP 0 rfl rfl 20 (by decide) hf_115 (fun _ h9 => h9) rfl dX4_begin_15 ?_
    refine hl_if_le (tgt := 30) hx hb dX4_begin_18 (by decide) (by omega) (fun c_3 => ?_) (fun c_3 => ?_)
    · refine lv_aload_n hx hb dX4_begin_30 rfl (lv_at hl 0 rfl) ?_
      refine va_get (D := (dC, dI)) (ci := 3) (v := .int (nI dn)) (C := RX4) (T := TX4) (N := 22) hx hb hts hinX4 hown hK hP 0 rfl rfl 21 (by decide) hf_118 (fun _ h9 => h9) rfl dX4_begin_31 ?_
      refine hl_if_eq (tgt := 40) hx hb dX4_begin_34 (by decide) (by omega) (fun c_4 => ?_) (fun c_4 => ?_)
      · refine lv_aload_n hx hb dX4_begin_40 rfl (lv_at hl 0 rfl) ?_
        refine va_get (D := (dC, dI)) (ci := 3) (v := .int (nI on)) (C := RX4) (T := TX4) (N := 22) hx hb hts hinX4 hown hK hP 0 rfl rfl 20 (by decide) hf_115 (fun _ h9 => h9) rfl dX4_begin_41 ?_
        refine lv_bipush (v := nI 16) hx hb dX4_begin_44 (by decide) ?_
        refine hl_icmp_eq (tgt := 59) hx hb dX4_begin_46 (by decide) (by omega) (by omega) (fun c_5 => ?_) (fun c_5 => ?_)
        · refine lv_bipush (v := (-3)) hx hb dX4_begin_59 (by decide) ?_
          have hP9 : va_P (dC, dI) vwCl (vX4_begin cA m0 m1 m2 m3 m4 m5 m6 m7 m8 m9 cd row sz1 nd tg st ln pa rd of ar dp at_ rs fd pl tx ou wr op on dn tag (nI 0, ou, wr, op, on)) _ := hP
          have hD9 : va_D A (vX4_begin cA m0 m1 m2 m3 m4 m5 m6 m7 m8 m9 cd row sz1 nd tg st ln pa rd of ar dp at_ rs fd pl tx ou wr op on dn tag (nI 0, ou, wr, op, on)) := hD
          have hq9 : pX4_begin m0 m1 m2 m3 m4 m5 m6 m7 m8 m9 cd row sz1 nd tg st ln pa rd of ar dp at_ rs fd pl tx ou wr op on dn tag ((-3)) (nI 0, ou, wr, op, on) := (by have e : begC tag on wr ou op = (-3) := (by unfold begC; rw [if_neg (fun h => h (by assumption)), if_neg (fun h => h (by unfold canH; rcases hdc with z | z <;> omega)), if_pos (by omega)]); exact ⟨⟨e.symm, Or.inr ⟨by rw [e]; decide, rfl, rfl, rfl, rfl⟩⟩, rfl⟩)
          exact W.iret (v := (-3)) hx hb hr (fun t ht hW => ⟨⟨(-3), (nI 0, ou, wr, op, on), rfl, hq9, by rw [ht]; exact hP9, va_K.moved hW.alike hK, hD9⟩, hS.F ht⟩) hS.2.2 dX4_begin_61
        · refine lv_aload_n hx hb dX4_begin_49 rfl (lv_at hl 0 rfl) ?_
          refine va_get (D := (dC, dI)) (ci := 3) (v := .int (nI wr)) (C := RX4) (T := TX4) (N := 22) hx hb hts hinX4 hown hK hP 0 rfl rfl 18 (by decide) hf_112 (fun _ h9 => h9) rfl dX4_begin_50 ?_
          refine lv_sipush (v := nI 300) hx hb dX4_begin_53 (by decide) ?_
          refine hl_icmp_ne (tgt := 62) hx hb dX4_begin_56 (by decide) (by omega) (by omega) (fun c_6 => ?_) (fun c_6 => ?_)
          · refine lv_aload_n hx hb dX4_begin_62 rfl (lv_at hl 0 rfl) ?_
            refine va_get (D := (dC, dI)) (ci := 3) (v := .ref m9) (C := RX4) (T := TX4) (N := 22) hx hb hts hinX4 hown hK hP 0 rfl rfl 19 (by decide) hf_38 (fun _ h9 => h9) rfl dX4_begin_63 ?_
            refine lv_aload_n hx hb dX4_begin_66 rfl (lv_at hl 0 rfl) ?_
            refine va_get (D := (dC, dI)) (ci := 3) (v := .int (nI on)) (C := RX4) (T := TX4) (N := 22) hx hb hts hinX4 hown hK hP 0 rfl rfl 20 (by decide) hf_115 (fun _ h9 => h9) rfl dX4_begin_67 ?_
            refine lv_aload_n hx hb dX4_begin_70 rfl (lv_at hl 0 rfl) ?_
            refine va_get (D := (dC, dI)) (ci := 3) (v := .int (nI wr)) (C := RX4) (T := TX4) (N := 22) hx hb hts hinX4 hown hK hP 0 rfl rfl 18 (by decide) hf_112 (fun _ h9 => h9) rfl dX4_begin_71 ?_
            refine hl_iast hx hb hK hP hD hS 9 0 rfl rfl (by omega) (by decide) dX4_begin_74 (fun H locs hP hD hS => ?_)
            have hP : va_P (dC, dI) vwCl (wM cA m0 m1 m2 m3 m4 m5 m6 m7 m8 m9 (nI 0) row sz1 nd tg st ln pa rd of ar dp at_ rs fd pl tx ou wr (va_up op on wr) on dn) H := hP
            have hD : va_D A (wM cA m0 m1 m2 m3 m4 m5 m6 m7 m8 m9 (nI 0) row sz1 nd tg st ln pa rd of ar dp at_ rs fd pl tx ou wr (va_up op on wr) on dn) := hD
            refine lv_aload_n hx hb dX4_begin_75 rfl (lv_at hl 0 rfl) ?_
            refine lv_dup hx hb dX4_begin_76 rfl ?_
            refine va_get (D := (dC, dI)) (ci := 3) (v := .int (nI on)) (C := RX4) (T := TX4) (N := 22) hx hb hts hinX4 hown hK hP 0 rfl rfl 20 (by decide) hf_115 (fun _ h9 => h9) rfl dX4_begin_77 ?_
            refine lv_iconst (v := nI 1) hx hb dX4_begin_80 (by decide) ?_
            refine hl_iadd hx hb dX4_begin_81 ?_
            refine va_put (D := (dC, dI)) (ci := 3) (v := .int (nI (on + 1))) (ty := .int) (C := RX4) (T := TX4) (N := 22) hx hb hts hinX4 tyX4 tyX4_ok nmX4 hown hK hP hD hS 0 rfl rfl 20 (by decide) hf_115 (fun _ h9 => h9) rfl (by decide +kernel) rfl rfl (Nat.le_of_ble_eq_true rfl) dX4_begin_82 (fun H locs hP hD hS => ?_)
            have hP : va_P (dC, dI) vwCl (wM cA m0 m1 m2 m3 m4 m5 m6 m7 m8 m9 (nI 0) row sz1 nd tg st ln pa rd of ar dp at_ rs fd pl tx ou wr (va_up op on wr) (on + 1) dn) H := hP
            have hD : va_D A (wM cA m0 m1 m2 m3 m4 m5 m6 m7 m8 m9 (nI 0) row sz1 nd tg st ln pa rd of ar dp at_ rs fd pl tx ou wr (va_up op on wr) (on + 1) dn) := hD
            refine lv_aload_n hx hb dX4_begin_85 rfl (lv_at hl 0 rfl) ?_
            refine va_get (D := (dC, dI)) (ci := 3) (v := .ref m8) (C := RX4) (T := TX4) (N := 22) hx hb hts hinX4 hown hK hP 0 rfl rfl 17 (by decide) hf_35 (fun _ h9 => h9) rfl dX4_begin_86 ?_
            refine lv_aload_n hx hb dX4_begin_89 rfl (lv_at hl 0 rfl) ?_
            refine va_get (D := (dC, dI)) (ci := 3) (v := .int (nI wr)) (C := RX4) (T := TX4) (N := 22) hx hb hts hinX4 hown hK hP 0 rfl rfl 18 (by decide) hf_112 (fun _ h9 => h9) rfl dX4_begin_90 ?_
            refine lv_iload_n hx hb dX4_begin_93 rfl (lv_at hl 1 rfl) ?_
            have hid := id_of ‹isId tag›
            refine hl_top hid.1 ?_
            refine hl_iast hx hb hK hP hD hS 8 0 rfl rfl (by omega) (by decide) dX4_begin_94 (fun H locs hP hD hS => ?_)
            have hP : va_P (dC, dI) vwCl (wM cA m0 m1 m2 m3 m4 m5 m6 m7 m8 m9 (nI 0) row sz1 nd tg st ln pa rd of ar dp at_ rs fd pl tx (va_up ou wr tag.toNatClampNeg) wr (va_up op on wr) (on + 1) dn) H := hP
            have hD : va_D A (wM cA m0 m1 m2 m3 m4 m5 m6 m7 m8 m9 (nI 0) row sz1 nd tg st ln pa rd of ar dp at_ rs fd pl tx (va_up ou wr tag.toNatClampNeg) wr (va_up op on wr) (on + 1) dn) := hD
            refine lv_aload_n hx hb dX4_begin_95 rfl (lv_at hl 0 rfl) ?_
            refine lv_dup hx hb dX4_begin_96 rfl ?_
            refine va_get (D := (dC, dI)) (ci := 3) (v := .int (nI wr)) (C := RX4) (T := TX4) (N := 22) hx hb hts hinX4 hown hK hP 0 rfl rfl 18 (by decide) hf_112 (fun _ h9 => h9) rfl dX4_begin_97 ?_
            refine lv_iconst (v := nI 1) hx hb dX4_begin_100 (by decide) ?_
            refine hl_iadd hx hb dX4_begin_101 ?_
            refine va_put (D := (dC, dI)) (ci := 3) (v := .int (nI (wr + 1))) (ty := .int) (C := RX4) (T := TX4) (N := 22) hx hb hts hinX4 tyX4 tyX4_ok nmX4 hown hK hP hD hS 0 rfl rfl 18 (by decide) hf_112 (fun _ h9 => h9) rfl (by decide +kernel) rfl rfl (Nat.le_of_ble_eq_true rfl) dX4_begin_102 (fun H locs hP hD hS => ?_)
            have hP : va_P (dC, dI) vwCl (wM cA m0 m1 m2 m3 m4 m5 m6 m7 m8 m9 (nI 0) row sz1 nd tg st ln pa rd of ar dp at_ rs fd pl tx (va_up ou wr tag.toNatClampNeg) (wr + 1) (va_up op on wr) (on + 1) dn) H := hP
            have hD : va_D A (wM cA m0 m1 m2 m3 m4 m5 m6 m7 m8 m9 (nI 0) row sz1 nd tg st ln pa rd of ar dp at_ rs fd pl tx (va_up ou wr tag.toNatClampNeg) (wr + 1) (va_up op on wr) (on + 1) dn) := hD
            refine lv_iconst (v := nI 0) hx hb dX4_begin_105 (by decide) ?_
            have hP9 : va_P (dC, dI) vwCl (vX4_begin cA m0 m1 m2 m3 m4 m5 m6 m7 m8 m9 cd row sz1 nd tg st ln pa rd of ar dp at_ rs fd pl tx ou wr op on dn tag (nI 0, va_up ou wr tag.toNatClampNeg, wr + 1, va_up op on wr, on + 1)) _ := hP
            have hD9 : va_D A (vX4_begin cA m0 m1 m2 m3 m4 m5 m6 m7 m8 m9 cd row sz1 nd tg st ln pa rd of ar dp at_ rs fd pl tx ou wr op on dn tag (nI 0, va_up ou wr tag.toNatClampNeg, wr + 1, va_up op on wr, on + 1)) := hD
            have hq9 : pX4_begin m0 m1 m2 m3 m4 m5 m6 m7 m8 m9 cd row sz1 nd tg st ln pa rd of ar dp at_ rs fd pl tx ou wr op on dn tag (nI 0) (nI 0, va_up ou wr tag.toNatClampNeg, wr + 1, va_up op on wr, on + 1) := (by have e : begC tag on wr ou op = 0 := (by unfold begC; rw [if_neg (fun h => h (by assumption)), if_neg (fun h => h (by unfold canH; rcases hdc with z | z <;> omega)), if_neg (by omega)]); exact ⟨⟨e.symm, Or.inl ⟨e, by assumption, (by unfold canH; rcases hdc with z | z <;> omega), by omega, by omega, rfl, rfl, rfl, rfl⟩⟩, rfl⟩)
            exact W.iret (v := nI 0) hx hb hr (fun t ht hW => ⟨⟨nI 0, (nI 0, va_up ou wr tag.toNatClampNeg, wr + 1, va_up op on wr, on + 1), rfl, hq9, by rw [ht]; exact hP9, va_K.moved hW.alike hK, hD9⟩, hS.F ht⟩) hS.2.2 dX4_begin_106
          · refine lv_bipush (v := (-3)) hx hb dX4_begin_59 (by decide) ?_
            have hP9 : va_P (dC, dI) vwCl (vX4_begin cA m0 m1 m2 m3 m4 m5 m6 m7 m8 m9 cd row sz1 nd tg st ln pa rd of ar dp at_ rs fd pl tx ou wr op on dn tag (nI 0, ou, wr, op, on)) _ := hP
            have hD9 : va_D A (vX4_begin cA m0 m1 m2 m3 m4 m5 m6 m7 m8 m9 cd row sz1 nd tg st ln pa rd of ar dp at_ rs fd pl tx ou wr op on dn tag (nI 0, ou, wr, op, on)) := hD
            have hq9 : pX4_begin m0 m1 m2 m3 m4 m5 m6 m7 m8 m9 cd row sz1 nd tg st ln pa rd of ar dp at_ rs fd pl tx ou wr op on dn tag ((-3)) (nI 0, ou, wr, op, on) := (by have e : begC tag on wr ou op = (-3) := (by unfold begC; rw [if_neg (fun h => h (by assumption)), if_neg (fun h => h (by unfold canH; rcases hdc with z | z <;> omega)), if_pos (by omega)]); exact ⟨⟨e.symm, Or.inr ⟨by rw [e]; decide, rfl, rfl, rfl, rfl⟩⟩, rfl⟩)
            exact W.iret (v := (-3)) hx hb hr (fun t ht hW => ⟨⟨(-3), (nI 0, ou, wr, op, on), rfl, hq9, by rw [ht]; exact hP9, va_K.moved hW.alike hK, hD9⟩, hS.F ht⟩) hS.2.2 dX4_begin_61
      · refine lv_bipush (v := (-2)) hx hb dX4_begin_37 (by decide) ?_
        have hP9 : va_P (dC, dI) vwCl (vX4_begin cA m0 m1 m2 m3 m4 m5 m6 m7 m8 m9 cd row sz1 nd tg st ln pa rd of ar dp at_ rs fd pl tx ou wr op on dn tag (nI 0, ou, wr, op, on)) _ := hP
        have hD9 : va_D A (vX4_begin cA m0 m1 m2 m3 m4 m5 m6 m7 m8 m9 cd row sz1 nd tg st ln pa rd of ar dp at_ rs fd pl tx ou wr op on dn tag (nI 0, ou, wr, op, on)) := hD
        have hq9 : pX4_begin m0 m1 m2 m3 m4 m5 m6 m7 m8 m9 cd row sz1 nd tg st ln pa rd of ar dp at_ rs fd pl tx ou wr op on dn tag ((-2)) (nI 0, ou, wr, op, on) := (by have e : begC tag on wr ou op = (-2) := (by unfold begC; rw [if_neg (fun h => h (by assumption)), if_pos (by unfold canH; rcases hdc with z | z <;> omega)]); exact ⟨⟨e.symm, Or.inr ⟨by rw [e]; decide, rfl, rfl, rfl, rfl⟩⟩, rfl⟩)
        exact W.iret (v := (-2)) hx hb hr (fun t ht hW => ⟨⟨(-2), (nI 0, ou, wr, op, on), rfl, hq9, by rw [ht]; exact hP9, va_K.moved hW.alike hK, hD9⟩, hS.F ht⟩) hS.2.2 dX4_begin_39
    · refine lv_aload_n hx hb dX4_begin_21 rfl (lv_at hl 0 rfl) ?_
      refine cl_Vi (As := []) (rest := []) (wr := []) ⟨hx, hb, hml, hown, hts⟩ (k_X4_openTag l dC dI cA m0 m1 m2 m3 m4 m5 m6 m7 m8 m9 (nI 0) row sz1 nd tg st ln pa rd of ar dp at_ rs fd pl tx ou wr op on dn _ hou hwr hon hop) (cwV 0 hts gX4_begin_X4_openTag rfl rfl rfl (by decide +kernel) ⟨Nat.le_of_ble_eq_true rfl, Nat.le_of_ble_eq_true rfl⟩) hK hP hD hS hA [0, 1, 2, 3, 4, 5, 6, 7, 8, 9] [] rfl rfl (by decide) (by decide) (by decide) (ci := 3) (q0 := 0) rfl rfl rfl rfl hl.1 rfl (Nat.le_of_ble_eq_true rfl) dX4_begin_22 ⟨Nat.le_of_ble_eq_true rfl, Nat.le_of_ble_eq_true rfl⟩ (fun r_7 u_7 H locs hw_7 hP hD hS => ?_)
      have hP : va_P (dC, dI) vwCl (wM cA m0 m1 m2 m3 m4 m5 m6 m7 m8 m9 (nI 0) row sz1 nd tg st ln pa rd of ar dp at_ rs fd pl tx ou wr op on dn) H := hP
      have hD : va_D A (wM cA m0 m1 m2 m3 m4 m5 m6 m7 m8 m9 (nI 0) row sz1 nd tg st ln pa rd of ar dp at_ rs fd pl tx ou wr op on dn) := hD
      have hw_7 : (on = 0 ∧ r_7 = -1) ∨ (0 < on ∧ r_7 = nI (ou (op (on - 1)))) := hw_7
      have hw_7 := ((hw_7.resolve_left (fun h => absurd h.1 (by omega))).2).symm
      subst hw_7
      have hv_7 := hou (op (on - 1))
      refine lv_bipush (v := nI 48) hx hb dX4_begin_25 (by decide) ?_
      refine hl_icmp_ne (tgt := 37) hx hb dX4_begin_27 (by decide) (by omega) (by omega) (fun c_8 => ?_) (fun c_8 => ?_)
      · refine lv_bipush (v := (-2)) hx hb dX4_begin_37 (by decide) ?_
        have hP9 : va_P (dC, dI) vwCl (vX4_begin cA m0 m1 m2 m3 m4 m5 m6 m7 m8 m9 cd row sz1 nd tg st ln pa rd of ar dp at_ rs fd pl tx ou wr op on dn tag (nI 0, ou, wr, op, on)) _ := hP
        have hD9 : va_D A (vX4_begin cA m0 m1 m2 m3 m4 m5 m6 m7 m8 m9 cd row sz1 nd tg st ln pa rd of ar dp at_ rs fd pl tx ou wr op on dn tag (nI 0, ou, wr, op, on)) := hD
        have hq9 : pX4_begin m0 m1 m2 m3 m4 m5 m6 m7 m8 m9 cd row sz1 nd tg st ln pa rd of ar dp at_ rs fd pl tx ou wr op on dn tag ((-2)) (nI 0, ou, wr, op, on) := (by have e : begC tag on wr ou op = (-2) := (by unfold begC; rw [if_neg (fun h => h (by assumption)), if_pos (by unfold canH; rcases hdc with z | z <;> omega)]); exact ⟨⟨e.symm, Or.inr ⟨by rw [e]; decide, rfl, rfl, rfl, rfl⟩⟩, rfl⟩)
        exact W.iret (v := (-2)) hx hb hr (fun t ht hW => ⟨⟨(-2), (nI 0, ou, wr, op, on), rfl, hq9, by rw [ht]; exact hP9, va_K.moved hW.alike hK, hD9⟩, hS.F ht⟩) hS.2.2 dX4_begin_39
      · refine lv_aload_n hx hb dX4_begin_30 rfl (lv_at hl 0 rfl) ?_
        refine va_get (D := (dC, dI)) (ci := 3) (v := .int (nI dn)) (C := RX4) (T := TX4) (N := 22) hx hb hts hinX4 hown hK hP 0 rfl rfl 21 (by decide) hf_118 (fun _ h9 => h9) rfl dX4_begin_31 ?_
        refine hl_if_eq (tgt := 40) hx hb dX4_begin_34 (by decide) (by omega) (fun c_9 => ?_) (fun c_9 => ?_)
        · refine lv_aload_n hx hb dX4_begin_40 rfl (lv_at hl 0 rfl) ?_
          refine va_get (D := (dC, dI)) (ci := 3) (v := .int (nI on)) (C := RX4) (T := TX4) (N := 22) hx hb hts hinX4 hown hK hP 0 rfl rfl 20 (by decide) hf_115 (fun _ h9 => h9) rfl dX4_begin_41 ?_
          refine lv_bipush (v := nI 16) hx hb dX4_begin_44 (by decide) ?_
          refine hl_icmp_eq (tgt := 59) hx hb dX4_begin_46 (by decide) (by omega) (by omega) (fun c_10 => ?_) (fun c_10 => ?_)
          · refine lv_bipush (v := (-3)) hx hb dX4_begin_59 (by decide) ?_
            have hP9 : va_P (dC, dI) vwCl (vX4_begin cA m0 m1 m2 m3 m4 m5 m6 m7 m8 m9 cd row sz1 nd tg st ln pa rd of ar dp at_ rs fd pl tx ou wr op on dn tag (nI 0, ou, wr, op, on)) _ := hP
            have hD9 : va_D A (vX4_begin cA m0 m1 m2 m3 m4 m5 m6 m7 m8 m9 cd row sz1 nd tg st ln pa rd of ar dp at_ rs fd pl tx ou wr op on dn tag (nI 0, ou, wr, op, on)) := hD
            have hq9 : pX4_begin m0 m1 m2 m3 m4 m5 m6 m7 m8 m9 cd row sz1 nd tg st ln pa rd of ar dp at_ rs fd pl tx ou wr op on dn tag ((-3)) (nI 0, ou, wr, op, on) := (by have e : begC tag on wr ou op = (-3) := (by unfold begC; rw [if_neg (fun h => h (by assumption)), if_neg (fun h => h (by unfold canH; rcases hdc with z | z <;> omega)), if_pos (by omega)]); exact ⟨⟨e.symm, Or.inr ⟨by rw [e]; decide, rfl, rfl, rfl, rfl⟩⟩, rfl⟩)
            exact W.iret (v := (-3)) hx hb hr (fun t ht hW => ⟨⟨(-3), (nI 0, ou, wr, op, on), rfl, hq9, by rw [ht]; exact hP9, va_K.moved hW.alike hK, hD9⟩, hS.F ht⟩) hS.2.2 dX4_begin_61
          · refine lv_aload_n hx hb dX4_begin_49 rfl (lv_at hl 0 rfl) ?_
            refine va_get (D := (dC, dI)) (ci := 3) (v := .int (nI wr)) (C := RX4) (T := TX4) (N := 22) hx hb hts hinX4 hown hK hP 0 rfl rfl 18 (by decide) hf_112 (fun _ h9 => h9) rfl dX4_begin_50 ?_
            refine lv_sipush (v := nI 300) hx hb dX4_begin_53 (by decide) ?_
            refine hl_icmp_ne (tgt := 62) hx hb dX4_begin_56 (by decide) (by omega) (by omega) (fun c_11 => ?_) (fun c_11 => ?_)
            · refine lv_aload_n hx hb dX4_begin_62 rfl (lv_at hl 0 rfl) ?_
              refine va_get (D := (dC, dI)) (ci := 3) (v := .ref m9) (C := RX4) (T := TX4) (N := 22) hx hb hts hinX4 hown hK hP 0 rfl rfl 19 (by decide) hf_38 (fun _ h9 => h9) rfl dX4_begin_63 ?_
              refine lv_aload_n hx hb dX4_begin_66 rfl (lv_at hl 0 rfl) ?_
              refine va_get (D := (dC, dI)) (ci := 3) (v := .int (nI on)) (C := RX4) (T := TX4) (N := 22) hx hb hts hinX4 hown hK hP 0 rfl rfl 20 (by decide) hf_115 (fun _ h9 => h9) rfl dX4_begin_67 ?_
              refine lv_aload_n hx hb dX4_begin_70 rfl (lv_at hl 0 rfl) ?_
              refine va_get (D := (dC, dI)) (ci := 3) (v := .int (nI wr)) (C := RX4) (T := TX4) (N := 22) hx hb hts hinX4 hown hK hP 0 rfl rfl 18 (by decide) hf_112 (fun _ h9 => h9) rfl dX4_begin_71 ?_
              refine hl_iast hx hb hK hP hD hS 9 0 rfl rfl (by omega) (by decide) dX4_begin_74 (fun H locs hP hD hS => ?_)
              have hP : va_P (dC, dI) vwCl (wM cA m0 m1 m2 m3 m4 m5 m6 m7 m8 m9 (nI 0) row sz1 nd tg st ln pa rd of ar dp at_ rs fd pl tx ou wr (va_up op on wr) on dn) H := hP
              have hD : va_D A (wM cA m0 m1 m2 m3 m4 m5 m6 m7 m8 m9 (nI 0) row sz1 nd tg st ln pa rd of ar dp at_ rs fd pl tx ou wr (va_up op on wr) on dn) := hD
              refine lv_aload_n hx hb dX4_begin_75 rfl (lv_at hl 0 rfl) ?_
              refine lv_dup hx hb dX4_begin_76 rfl ?_
              refine va_get (D := (dC, dI)) (ci := 3) (v := .int (nI on)) (C := RX4) (T := TX4) (N := 22) hx hb hts hinX4 hown hK hP 0 rfl rfl 20 (by decide) hf_115 (fun _ h9 => h9) rfl dX4_begin_77 ?_
              refine lv_iconst (v := nI 1) hx hb dX4_begin_80 (by decide) ?_
              refine hl_iadd hx hb dX4_begin_81 ?_
              refine va_put (D := (dC, dI)) (ci := 3) (v := .int (nI (on + 1))) (ty := .int) (C := RX4) (T := TX4) (N := 22) hx hb hts hinX4 tyX4 tyX4_ok nmX4 hown hK hP hD hS 0 rfl rfl 20 (by decide) hf_115 (fun _ h9 => h9) rfl (by decide +kernel) rfl rfl (Nat.le_of_ble_eq_true rfl) dX4_begin_82 (fun H locs hP hD hS => ?_)
              have hP : va_P (dC, dI) vwCl (wM cA m0 m1 m2 m3 m4 m5 m6 m7 m8 m9 (nI 0) row sz1 nd tg st ln pa rd of ar dp at_ rs fd pl tx ou wr (va_up op on wr) (on + 1) dn) H := hP
              have hD : va_D A (wM cA m0 m1 m2 m3 m4 m5 m6 m7 m8 m9 (nI 0) row sz1 nd tg st ln pa rd of ar dp at_ rs fd pl tx ou wr (va_up op on wr) (on + 1) dn) := hD
              refine lv_aload_n hx hb dX4_begin_85 rfl (lv_at hl 0 rfl) ?_
              refine va_get (D := (dC, dI)) (ci := 3) (v := .ref m8) (C := RX4) (T := TX4) (N := 22) hx hb hts hinX4 hown hK hP 0 rfl rfl 17 (by decide) hf_35 (fun _ h9 => h9) rfl dX4_begin_86 ?_
              refine lv_aload_n hx hb dX4_begin_89 rfl (lv_at hl 0 rfl) ?_
              refine va_get (D := (dC, dI)) (ci := 3) (v := .int (nI wr)) (C := RX4) (T := TX4) (N := 22) hx hb hts hinX4 hown hK hP 0 rfl rfl 18 (by decide) hf_112 (fun _ h9 => h9) rfl dX4_begin_90 ?_
              refine lv_iload_n hx hb dX4_begin_93 rfl (lv_at hl 1 rfl) ?_
              have hid := id_of ‹isId tag›
              refine hl_top hid.1 ?_
              refine hl_iast hx hb hK hP hD hS 8 0 rfl rfl (by omega) (by decide) dX4_begin_94 (fun H locs hP hD hS => ?_)
              have hP : va_P (dC, dI) vwCl (wM cA m0 m1 m2 m3 m4 m5 m6 m7 m8 m9 (nI 0) row sz1 nd tg st ln pa rd of ar dp at_ rs fd pl tx (va_up ou wr tag.toNatClampNeg) wr (va_up op on wr) (on + 1) dn) H := hP
              have hD : va_D A (wM cA m0 m1 m2 m3 m4 m5 m6 m7 m8 m9 (nI 0) row sz1 nd tg st ln pa rd of ar dp at_ rs fd pl tx (va_up ou wr tag.toNatClampNeg) wr (va_up op on wr) (on + 1) dn) := hD
              refine lv_aload_n hx hb dX4_begin_95 rfl (lv_at hl 0 rfl) ?_
              refine lv_dup hx hb dX4_begin_96 rfl ?_
              refine va_get (D := (dC, dI)) (ci := 3) (v := .int (nI wr)) (C := RX4) (T := TX4) (N := 22) hx hb hts hinX4 hown hK hP 0 rfl rfl 18 (by decide) hf_112 (fun _ h9 => h9) rfl dX4_begin_97 ?_
              refine lv_iconst (v := nI 1) hx hb dX4_begin_100 (by decide) ?_
              refine hl_iadd hx hb dX4_begin_101 ?_
              refine va_put (D := (dC, dI)) (ci := 3) (v := .int (nI (wr + 1))) (ty := .int) (C := RX4) (T := TX4) (N := 22) hx hb hts hinX4 tyX4 tyX4_ok nmX4 hown hK hP hD hS 0 rfl rfl 18 (by decide) hf_112 (fun _ h9 => h9) rfl (by decide +kernel) rfl rfl (Nat.le_of_ble_eq_true rfl) dX4_begin_102 (fun H locs hP hD hS => ?_)
              have hP : va_P (dC, dI) vwCl (wM cA m0 m1 m2 m3 m4 m5 m6 m7 m8 m9 (nI 0) row sz1 nd tg st ln pa rd of ar dp at_ rs fd pl tx (va_up ou wr tag.toNatClampNeg) (wr + 1) (va_up op on wr) (on + 1) dn) H := hP
              have hD : va_D A (wM cA m0 m1 m2 m3 m4 m5 m6 m7 m8 m9 (nI 0) row sz1 nd tg st ln pa rd of ar dp at_ rs fd pl tx (va_up ou wr tag.toNatClampNeg) (wr + 1) (va_up op on wr) (on + 1) dn) := hD
              refine lv_iconst (v := nI 0) hx hb dX4_begin_105 (by decide) ?_
              have hP9 : va_P (dC, dI) vwCl (vX4_begin cA m0 m1 m2 m3 m4 m5 m6 m7 m8 m9 cd row sz1 nd tg st ln pa rd of ar dp at_ rs fd pl tx ou wr op on dn tag (nI 0, va_up ou wr tag.toNatClampNeg, wr + 1, va_up op on wr, on + 1)) _ := hP
              have hD9 : va_D A (vX4_begin cA m0 m1 m2 m3 m4 m5 m6 m7 m8 m9 cd row sz1 nd tg st ln pa rd of ar dp at_ rs fd pl tx ou wr op on dn tag (nI 0, va_up ou wr tag.toNatClampNeg, wr + 1, va_up op on wr, on + 1)) := hD
              have hq9 : pX4_begin m0 m1 m2 m3 m4 m5 m6 m7 m8 m9 cd row sz1 nd tg st ln pa rd of ar dp at_ rs fd pl tx ou wr op on dn tag (nI 0) (nI 0, va_up ou wr tag.toNatClampNeg, wr + 1, va_up op on wr, on + 1) := (by have e : begC tag on wr ou op = 0 := (by unfold begC; rw [if_neg (fun h => h (by assumption)), if_neg (fun h => h (by unfold canH; rcases hdc with z | z <;> omega)), if_neg (by omega)]); exact ⟨⟨e.symm, Or.inl ⟨e, by assumption, (by unfold canH; rcases hdc with z | z <;> omega), by omega, by omega, rfl, rfl, rfl, rfl⟩⟩, rfl⟩)
              exact W.iret (v := nI 0) hx hb hr (fun t ht hW => ⟨⟨nI 0, (nI 0, va_up ou wr tag.toNatClampNeg, wr + 1, va_up op on wr, on + 1), rfl, hq9, by rw [ht]; exact hP9, va_K.moved hW.alike hK, hD9⟩, hS.F ht⟩) hS.2.2 dX4_begin_106
            · refine lv_bipush (v := (-3)) hx hb dX4_begin_59 (by decide) ?_
              have hP9 : va_P (dC, dI) vwCl (vX4_begin cA m0 m1 m2 m3 m4 m5 m6 m7 m8 m9 cd row sz1 nd tg st ln pa rd of ar dp at_ rs fd pl tx ou wr op on dn tag (nI 0, ou, wr, op, on)) _ := hP
              have hD9 : va_D A (vX4_begin cA m0 m1 m2 m3 m4 m5 m6 m7 m8 m9 cd row sz1 nd tg st ln pa rd of ar dp at_ rs fd pl tx ou wr op on dn tag (nI 0, ou, wr, op, on)) := hD
              have hq9 : pX4_begin m0 m1 m2 m3 m4 m5 m6 m7 m8 m9 cd row sz1 nd tg st ln pa rd of ar dp at_ rs fd pl tx ou wr op on dn tag ((-3)) (nI 0, ou, wr, op, on) := (by have e : begC tag on wr ou op = (-3) := (by unfold begC; rw [if_neg (fun h => h (by assumption)), if_neg (fun h => h (by unfold canH; rcases hdc with z | z <;> omega)), if_pos (by omega)]); exact ⟨⟨e.symm, Or.inr ⟨by rw [e]; decide, rfl, rfl, rfl, rfl⟩⟩, rfl⟩)
              exact W.iret (v := (-3)) hx hb hr (fun t ht hW => ⟨⟨(-3), (nI 0, ou, wr, op, on), rfl, hq9, by rw [ht]; exact hP9, va_K.moved hW.alike hK, hD9⟩, hS.F ht⟩) hS.2.2 dX4_begin_61
        · refine lv_bipush (v := (-2)) hx hb dX4_begin_37 (by decide) ?_
          have hP9 : va_P (dC, dI) vwCl (vX4_begin cA m0 m1 m2 m3 m4 m5 m6 m7 m8 m9 cd row sz1 nd tg st ln pa rd of ar dp at_ rs fd pl tx ou wr op on dn tag (nI 0, ou, wr, op, on)) _ := hP
          have hD9 : va_D A (vX4_begin cA m0 m1 m2 m3 m4 m5 m6 m7 m8 m9 cd row sz1 nd tg st ln pa rd of ar dp at_ rs fd pl tx ou wr op on dn tag (nI 0, ou, wr, op, on)) := hD
          have hq9 : pX4_begin m0 m1 m2 m3 m4 m5 m6 m7 m8 m9 cd row sz1 nd tg st ln pa rd of ar dp at_ rs fd pl tx ou wr op on dn tag ((-2)) (nI 0, ou, wr, op, on) := (by have e : begC tag on wr ou op = (-2) := (by unfold begC; rw [if_neg (fun h => h (by assumption)), if_pos (by unfold canH; rcases hdc with z | z <;> omega)]); exact ⟨⟨e.symm, Or.inr ⟨by rw [e]; decide, rfl, rfl, rfl, rfl⟩⟩, rfl⟩)
          exact W.iret (v := (-2)) hx hb hr (fun t ht hW => ⟨⟨(-2), (nI 0, ou, wr, op, on), rfl, hq9, by rw [ht]; exact hP9, va_K.moved hW.alike hK, hD9⟩, hS.F ht⟩) hS.2.2 dX4_begin_39
  · refine lv_iconst (v := (-1)) hx hb dX4_begin_12 (by decide) ?_
    have hP9 : va_P (dC, dI) vwCl (vX4_begin cA m0 m1 m2 m3 m4 m5 m6 m7 m8 m9 cd row sz1 nd tg st ln pa rd of ar dp at_ rs fd pl tx ou wr op on dn tag (nI 0, ou, wr, op, on)) _ := hP
    have hD9 : va_D A (vX4_begin cA m0 m1 m2 m3 m4 m5 m6 m7 m8 m9 cd row sz1 nd tg st ln pa rd of ar dp at_ rs fd pl tx ou wr op on dn tag (nI 0, ou, wr, op, on)) := hD
    have hq9 : pX4_begin m0 m1 m2 m3 m4 m5 m6 m7 m8 m9 cd row sz1 nd tg st ln pa rd of ar dp at_ rs fd pl tx ou wr op on dn tag ((-1)) (nI 0, ou, wr, op, on) := (by have e : begC tag on wr ou op = (-1) := (by unfold begC; rw [if_pos (by assumption)]); exact ⟨⟨e.symm, Or.inr ⟨by rw [e]; decide, rfl, rfl, rfl, rfl⟩⟩, rfl⟩)
    exact W.iret (v := (-1)) hx hb hr (fun t ht hW => ⟨⟨(-1), (nI 0, ou, wr, op, on), rfl, hq9, by rw [ht]; exact hP9, va_K.moved hW.alike hK, hD9⟩, hS.F ht⟩) hS.2.2 dX4_begin_13
abbrev pX4_putByte (m0 : Nat) (m1 : Nat) (m2 : Nat) (m3 : Nat) (m4 : Nat) (m5 : Nat) (m6 : Nat) (m7 : Nat) (m8 : Nat) (m9 : Nat) (cd : Int32) (row : Nat → Nat) (sz1 : Nat) (nd : Nat) (tg : Nat → Nat) (st : Nat → Nat) (ln : Nat → Nat) (pa : Nat → Int32) (rd : Nat) (of : Int32) (ar : Nat → Nat) (dp : Nat) (at_ : Nat) (rs : Int32) (fd : Nat) (pl : Int32) (tx : Nat → Nat) (ou : Nat → Nat) (wr : Nat) (op : Nat → Nat) (on : Nat) (dn : Nat) (b : Int32) : Int32 → Int32 × (Nat → Nat) × Nat → Prop := fun (r : Int32) (u : Int32 × (Nat → Nat) × Nat) => match u with | (cd2, ou2, wr2) => (r = pbC b on wr ou op ∧ ((pbC b on wr ou op = 0 ∧ isB b ∧ wr < 300 ∧ ou2 = va_up ou wr b.toNatClampNeg ∧ wr2 = wr + 1) ∨ (pbC b on wr ou op ≠ 0 ∧ ou2 = ou ∧ wr2 = wr))) ∧ cd2 = nI 0
abbrev vX4_putByte (cA : ClassId) (m0 : Nat) (m1 : Nat) (m2 : Nat) (m3 : Nat) (m4 : Nat) (m5 : Nat) (m6 : Nat) (m7 : Nat) (m8 : Nat) (m9 : Nat) (cd : Int32) (row : Nat → Nat) (sz1 : Nat) (nd : Nat) (tg : Nat → Nat) (st : Nat → Nat) (ln : Nat → Nat) (pa : Nat → Int32) (rd : Nat) (of : Int32) (ar : Nat → Nat) (dp : Nat) (at_ : Nat) (rs : Int32) (fd : Nat) (pl : Int32) (tx : Nat → Nat) (ou : Nat → Nat) (wr : Nat) (op : Nat → Nat) (on : Nat) (dn : Nat) (b : Int32) : Int32 × (Nat → Nat) × Nat → va_W := fun (u : Int32 × (Nat → Nat) × Nat) => match u with | (cd2, ou2, wr2) => wM cA m0 m1 m2 m3 m4 m5 m6 m7 m8 m9 cd2 row sz1 nd tg st ln pa rd of ar dp at_ rs fd pl tx ou2 wr2 op on dn
abbrev qX4_putByte (dC : Nat → ClassId) (dI : Nat → Nat → Nat) (cA : ClassId) (A : Nat → Prop) (m0 : Nat) (m1 : Nat) (m2 : Nat) (m3 : Nat) (m4 : Nat) (m5 : Nat) (m6 : Nat) (m7 : Nat) (m8 : Nat) (m9 : Nat) (cd : Int32) (row : Nat → Nat) (sz1 : Nat) (nd : Nat) (tg : Nat → Nat) (st : Nat → Nat) (ln : Nat → Nat) (pa : Nat → Int32) (rd : Nat) (of : Int32) (ar : Nat → Nat) (dp : Nat) (at_ : Nat) (rs : Int32) (fd : Nat) (pl : Int32) (tx : Nat → Nat) (ou : Nat → Nat) (wr : Nat) (op : Nat → Nat) (on : Nat) (dn : Nat) (b : Int32) : Array Value → State → Outcome → State → Prop := va_Qi (pX4_putByte m0 m1 m2 m3 m4 m5 m6 m7 m8 m9 cd row sz1 nd tg st ln pa rd of ar dp at_ rs fd pl tx ou wr op on dn b) (fun u => cAft dC dI cA A (vX4_putByte cA m0 m1 m2 m3 m4 m5 m6 m7 m8 m9 cd row sz1 nd tg st ln pa rd of ar dp at_ rs fd pl tx ou wr op on dn b u)) A
set_option maxHeartbeats 4000000 in
set_option maxRecDepth 100000 in
theorem k_X4_putByte (l : Launch) (dC : Nat → ClassId) (dI : Nat → Nat → Nat) (cA : ClassId) (m0 : Nat) (m1 : Nat) (m2 : Nat) (m3 : Nat) (m4 : Nat) (m5 : Nat) (m6 : Nat) (m7 : Nat) (m8 : Nat) (m9 : Nat) (cd : Int32) (row : Nat → Nat) (sz1 : Nat) (nd : Nat) (tg : Nat → Nat) (st : Nat → Nat) (ln : Nat → Nat) (pa : Nat → Int32) (rd : Nat) (of : Int32) (ar : Nat → Nat) (dp : Nat) (at_ : Nat) (rs : Int32) (fd : Nat) (pl : Int32) (tx : Nat → Nat) (ou : Nat → Nat) (wr : Nat) (op : Nat → Nat) (on : Nat) (dn : Nat) (b : Int32) (sz : Nat) (hou : ∀ j, ou j < 256) (hwr : wr ≤ 300) (hon : on ≤ 16) (hop : ∀ j, j < on → op j < wr) : Met l yX4_putByte wsX4_putByte ({ frames := 1, cells := 0, slots := 0, locals := 20 } : Room) (va_Pc [.ref m0, .int b] (cPre dC dI cA (wM cA m0 m1 m2 m3 m4 m5 m6 m7 m8 m9 cd row sz1 nd tg st ln pa rd of ar dp at_ rs fd pl tx ou wr op on dn) sz)) (qX4_putByte dC dI cA (va_A (wM cA m0 m1 m2 m3 m4 m5 m6 m7 m8 m9 cd row sz1 nd tg st ln pa rd of ar dp at_ rs fd pl tx ou wr op on dn) sz) m0 m1 m2 m3 m4 m5 m6 m7 m8 m9 cd row sz1 nd tg st ln pa rd of ar dp at_ rs fd pl tx ou wr op on dn b) 0 0 (va_A (wM cA m0 m1 m2 m3 m4 m5 m6 m7 m8 m9 cd row sz1 nd tg st ln pa rd of ar dp at_ rs fd pl tx ou wr op on dn) sz) := by
  refine Met.ofW (cc := cX4_putByte) (maxL := 2) (ret := (some .int)) (by decide) rfl ?_
  intro p e s m args below meth c s₁ B hml hv
  obtain ⟨rfl, hsz, hP, hK, hD0⟩ := hv
  have hx := B.exec
  have hb := B.bytes
  have hr := B.returns
  have hts := atoms_spec (ws := wsX4_putByte) B.pre
  have hown : s.vm.findClass RX4 = some m.cls := findClass_of_methodNamed B.named
  have hlocks := B.notSynchronized
  subst hsz
  have hD := hD0.self (sz := s.heap.size)
  generalize hAe : va_A (wM cA m0 m1 m2 m3 m4 m5 m6 m7 m8 m9 cd row sz1 nd tg st ln pa rd of ar dp at_ rs fd pl tx ou wr op on dn) s.heap.size = A at hD ⊢
  have hA : ∀ q : Nat, s.heap.size ≤ q → A q := fun q h => by rw [← hAe]; exact Or.inr h
  have hS : va_S A s.heap s.heap [] := va_S.rf
  have hl := lv_entry ([.ref m0, .int b]) (n := 2) (Nat.le_of_ble_eq_true rfl)
  rw [lg_entry_eq]
  generalize (lg_sl ([.ref m0, .int b]) ++ List.replicate (2 - (lg_sl ([.ref m0, .int b])).length) Slot.unset).toArray = ls at hl ⊢
  have hl : lv_has ls 2 [(0, .ref m0), (1, .int b)] := hl
  have hinX4 : ∀ w ∈ wsX40, w ∈ wsX4_putByte := fun _ h => List.mem_cons_of_mem _ (List.mem_append_right _ h)
  have hf_35 := hts (.fieldLink RX4 35 "DerDeskModel" "output" "[I") (by decide +kernel)
  have hf_41 := hts (.fieldLink RX4 41 "DerDeskModel" "code" "I") (by decide +kernel)
  have hf_112 := hts (.fieldLink RX4 112 "DerDeskModel" "written" "I") (by decide +kernel)
  have hf_115 := hts (.fieldLink RX4 115 "DerDeskModel" "open" "I") (by decide +kernel)
  have hP : va_P (dC, dI) vwCl (wM cA m0 m1 m2 m3 m4 m5 m6 m7 m8 m9 cd row sz1 nd tg st ln pa rd of ar dp at_ rs fd pl tx ou wr op on dn) s.heap := hP
  refine lv_aload_n hx hb dX4_putByte_0 rfl (lv_at hl 0 rfl) ?_
  refine lv_iconst (v := nI 0) hx hb dX4_putByte_1 (by decide) ?_
  refine va_put (D := (dC, dI)) (ci := 3) (v := .int (nI 0)) (ty := .int) (C := RX4) (T := TX4) (N := 22) hx hb hts hinX4 tyX4 tyX4_ok nmX4 hown hK hP hD hS 0 rfl rfl 0 (by decide) hf_41 (fun _ h9 => h9) rfl (by decide +kernel) rfl rfl (Nat.le_of_ble_eq_true rfl) dX4_putByte_2 (fun H locs hP hD hS => ?_)
  have hP : va_P (dC, dI) vwCl (wM cA m0 m1 m2 m3 m4 m5 m6 m7 m8 m9 (nI 0) row sz1 nd tg st ln pa rd of ar dp at_ rs fd pl tx ou wr op on dn) H := hP
  have hD : va_D A (wM cA m0 m1 m2 m3 m4 m5 m6 m7 m8 m9 (nI 0) row sz1 nd tg st ln pa rd of ar dp at_ rs fd pl tx ou wr op on dn) := hD
  refine lv_iload_n hx hb dX4_putByte_5 rfl (lv_at hl 1 rfl) ?_
  refine cl_Si (As := [.int b]) (rest := []) (wr := [(m0, .inr (3, [.int (nI 0), .ref m1, .int (nI sz1), .int (nI nd), .ref m2, .ref m3, .ref m4, .ref m5, .int (nI rd), .int of, .ref m6, .int (nI dp), .int (nI at_), .int rs, .int (nI fd), .int pl, .ref m7, .ref m8, .int (nI wr), .ref m9, .int (nI on), .int (nI dn)])), (m1, .inl (cA, 300, .inl (nA row))), (m2, .inl (cA, 64, .inl (nA tg))), (m3, .inl (cA, 64, .inl (nA st))), (m4, .inl (cA, 64, .inl (nA ln))), (m5, .inl (cA, 64, .inl (pa))), (m6, .inl (cA, 17, .inl (nA ar))), (m7, .inl (cA, 300, .inl (nA tx))), (m8, .inl (cA, 300, .inl (nA ou))), (m9, .inl (cA, 16, .inl (nA op)))]) ⟨hx, hb, hml, hown, hts⟩ (k_X4_isByte l dC dI cA b _ ) (va_cwS 1 hts gX4_putByte_X4_isByte rfl rfl rfl (by decide +kernel) ⟨Nat.le_of_ble_eq_true rfl, Nat.le_of_ble_eq_true rfl⟩) hK hP hD hS hA [] [0, 1, 2, 3, 4, 5, 6, 7, 8, 9] rfl rfl (by decide) (by decide) (by decide) rfl hl.1 rfl (Nat.le_of_ble_eq_true rfl) dX4_putByte_6 ⟨Nat.le_of_ble_eq_true rfl, Nat.le_of_ble_eq_true rfl⟩ (fun r_1 u_1 H locs hw_1 hP hD hS => ?_)
  have hP : va_P (dC, dI) vwCl (wM cA m0 m1 m2 m3 m4 m5 m6 m7 m8 m9 (nI 0) row sz1 nd tg st ln pa rd of ar dp at_ rs fd pl tx ou wr op on dn) H := hP
  have hD : va_D A (wM cA m0 m1 m2 m3 m4 m5 m6 m7 m8 m9 (nI 0) row sz1 nd tg st ln pa rd of ar dp at_ rs fd pl tx ou wr op on dn) := hD
  have hw_1 : r_1 = if isB b then 1 else 0 := hw_1
  have hw_1 := hw_1.symm
  subst hw_1
  refine hl_ifb_ne (tgt := 14) hx hb dX4_putByte_9 (by decide) (fun c_2 => ?_) (fun c_2 => ?_)
  · refine lv_aload_n hx hb dX4_putByte_14 rfl (lv_at hl 0 rfl) ?_
    refine va_get (D := (dC, dI)) (ci := 3) (v := .int (nI on)) (C := RX4) (T := TX4) (N := 22) hx hb hts hinX4 hown hK hP 0 rfl rfl 20 (by decide) hf_115 (fun _ h9 => h9) rfl dX4_putByte_15 ?_
    refine hl_if_eq (tgt := 30) hx hb dX4_putByte_18 (by decide) (by omega) (fun c_3 => ?_) (fun c_3 => ?_)
    · refine lv_bipush (v := (-2)) hx hb dX4_putByte_30 (by decide) ?_
      have hP9 : va_P (dC, dI) vwCl (vX4_putByte cA m0 m1 m2 m3 m4 m5 m6 m7 m8 m9 cd row sz1 nd tg st ln pa rd of ar dp at_ rs fd pl tx ou wr op on dn b (nI 0, ou, wr)) _ := hP
      have hD9 : va_D A (vX4_putByte cA m0 m1 m2 m3 m4 m5 m6 m7 m8 m9 cd row sz1 nd tg st ln pa rd of ar dp at_ rs fd pl tx ou wr op on dn b (nI 0, ou, wr)) := hD
      have hq9 : pX4_putByte m0 m1 m2 m3 m4 m5 m6 m7 m8 m9 cd row sz1 nd tg st ln pa rd of ar dp at_ rs fd pl tx ou wr op on dn b ((-2)) (nI 0, ou, wr) := (by have e : pbC b on wr ou op = (-2) := (by unfold pbC; rw [if_neg (fun h => h (by assumption)), if_pos (by omega)]); exact ⟨⟨e.symm, Or.inr ⟨by rw [e]; decide, rfl, rfl⟩⟩, rfl⟩)
      exact W.iret (v := (-2)) hx hb hr (fun t ht hW => ⟨⟨(-2), (nI 0, ou, wr), rfl, hq9, by rw [ht]; exact hP9, va_K.moved hW.alike hK, hD9⟩, hS.F ht⟩) hS.2.2 dX4_putByte_32
    · refine lv_aload_n hx hb dX4_putByte_21 rfl (lv_at hl 0 rfl) ?_
      refine cl_Vi (As := []) (rest := []) (wr := []) ⟨hx, hb, hml, hown, hts⟩ (k_X4_openTag l dC dI cA m0 m1 m2 m3 m4 m5 m6 m7 m8 m9 (nI 0) row sz1 nd tg st ln pa rd of ar dp at_ rs fd pl tx ou wr op on dn _ hou hwr hon hop) (cwV 0 hts gX4_putByte_X4_openTag rfl rfl rfl (by decide +kernel) ⟨Nat.le_of_ble_eq_true rfl, Nat.le_of_ble_eq_true rfl⟩) hK hP hD hS hA [0, 1, 2, 3, 4, 5, 6, 7, 8, 9] [] rfl rfl (by decide) (by decide) (by decide) (ci := 3) (q0 := 0) rfl rfl rfl rfl hl.1 rfl (Nat.le_of_ble_eq_true rfl) dX4_putByte_22 ⟨Nat.le_of_ble_eq_true rfl, Nat.le_of_ble_eq_true rfl⟩ (fun r_4 u_4 H locs hw_4 hP hD hS => ?_)
      have hP : va_P (dC, dI) vwCl (wM cA m0 m1 m2 m3 m4 m5 m6 m7 m8 m9 (nI 0) row sz1 nd tg st ln pa rd of ar dp at_ rs fd pl tx ou wr op on dn) H := hP
      have hD : va_D A (wM cA m0 m1 m2 m3 m4 m5 m6 m7 m8 m9 (nI 0) row sz1 nd tg st ln pa rd of ar dp at_ rs fd pl tx ou wr op on dn) := hD
      have hw_4 : (on = 0 ∧ r_4 = -1) ∨ (0 < on ∧ r_4 = nI (ou (op (on - 1)))) := hw_4
      have hw_4 := ((hw_4.resolve_left (fun h => absurd h.1 (by omega))).2).symm
      subst hw_4
      have hv_4 := hou (op (on - 1))
      refine lv_bipush (v := nI 48) hx hb dX4_putByte_25 (by decide) ?_
      refine hl_icmp_ne (tgt := 33) hx hb dX4_putByte_27 (by decide) (by omega) (by omega) (fun c_5 => ?_) (fun c_5 => ?_)
      · refine lv_aload_n hx hb dX4_putByte_33 rfl (lv_at hl 0 rfl) ?_
        refine va_get (D := (dC, dI)) (ci := 3) (v := .int (nI wr)) (C := RX4) (T := TX4) (N := 22) hx hb hts hinX4 hown hK hP 0 rfl rfl 18 (by decide) hf_112 (fun _ h9 => h9) rfl dX4_putByte_34 ?_
        refine lv_sipush (v := nI 300) hx hb dX4_putByte_37 (by decide) ?_
        refine hl_icmp_ne (tgt := 46) hx hb dX4_putByte_40 (by decide) (by omega) (by omega) (fun c_6 => ?_) (fun c_6 => ?_)
        · refine lv_aload_n hx hb dX4_putByte_46 rfl (lv_at hl 0 rfl) ?_
          refine va_get (D := (dC, dI)) (ci := 3) (v := .ref m8) (C := RX4) (T := TX4) (N := 22) hx hb hts hinX4 hown hK hP 0 rfl rfl 17 (by decide) hf_35 (fun _ h9 => h9) rfl dX4_putByte_47 ?_
          refine lv_aload_n hx hb dX4_putByte_50 rfl (lv_at hl 0 rfl) ?_
          refine va_get (D := (dC, dI)) (ci := 3) (v := .int (nI wr)) (C := RX4) (T := TX4) (N := 22) hx hb hts hinX4 hown hK hP 0 rfl rfl 18 (by decide) hf_112 (fun _ h9 => h9) rfl dX4_putByte_51 ?_
          refine lv_iload_n hx hb dX4_putByte_54 rfl (lv_at hl 1 rfl) ?_
          have hq := ‹isB b›
          have hbl := cl_le hq.1 (by decide) hq.2
          refine hl_top (cl_of hq.1) ?_
          refine hl_iast hx hb hK hP hD hS 8 0 rfl rfl (by omega) (by decide) dX4_putByte_55 (fun H locs hP hD hS => ?_)
          have hP : va_P (dC, dI) vwCl (wM cA m0 m1 m2 m3 m4 m5 m6 m7 m8 m9 (nI 0) row sz1 nd tg st ln pa rd of ar dp at_ rs fd pl tx (va_up ou wr b.toNatClampNeg) wr op on dn) H := hP
          have hD : va_D A (wM cA m0 m1 m2 m3 m4 m5 m6 m7 m8 m9 (nI 0) row sz1 nd tg st ln pa rd of ar dp at_ rs fd pl tx (va_up ou wr b.toNatClampNeg) wr op on dn) := hD
          refine lv_aload_n hx hb dX4_putByte_56 rfl (lv_at hl 0 rfl) ?_
          refine lv_dup hx hb dX4_putByte_57 rfl ?_
          refine va_get (D := (dC, dI)) (ci := 3) (v := .int (nI wr)) (C := RX4) (T := TX4) (N := 22) hx hb hts hinX4 hown hK hP 0 rfl rfl 18 (by decide) hf_112 (fun _ h9 => h9) rfl dX4_putByte_58 ?_
          refine lv_iconst (v := nI 1) hx hb dX4_putByte_61 (by decide) ?_
          refine hl_iadd hx hb dX4_putByte_62 ?_
          refine va_put (D := (dC, dI)) (ci := 3) (v := .int (nI (wr + 1))) (ty := .int) (C := RX4) (T := TX4) (N := 22) hx hb hts hinX4 tyX4 tyX4_ok nmX4 hown hK hP hD hS 0 rfl rfl 18 (by decide) hf_112 (fun _ h9 => h9) rfl (by decide +kernel) rfl rfl (Nat.le_of_ble_eq_true rfl) dX4_putByte_63 (fun H locs hP hD hS => ?_)
          have hP : va_P (dC, dI) vwCl (wM cA m0 m1 m2 m3 m4 m5 m6 m7 m8 m9 (nI 0) row sz1 nd tg st ln pa rd of ar dp at_ rs fd pl tx (va_up ou wr b.toNatClampNeg) (wr + 1) op on dn) H := hP
          have hD : va_D A (wM cA m0 m1 m2 m3 m4 m5 m6 m7 m8 m9 (nI 0) row sz1 nd tg st ln pa rd of ar dp at_ rs fd pl tx (va_up ou wr b.toNatClampNeg) (wr + 1) op on dn) := hD
          refine lv_iconst (v := nI 0) hx hb dX4_putByte_66 (by decide) ?_
          have hP9 : va_P (dC, dI) vwCl (vX4_putByte cA m0 m1 m2 m3 m4 m5 m6 m7 m8 m9 cd row sz1 nd tg st ln pa rd of ar dp at_ rs fd pl tx ou wr op on dn b (nI 0, va_up ou wr b.toNatClampNeg, wr + 1)) _ := hP
          have hD9 : va_D A (vX4_putByte cA m0 m1 m2 m3 m4 m5 m6 m7 m8 m9 cd row sz1 nd tg st ln pa rd of ar dp at_ rs fd pl tx ou wr op on dn b (nI 0, va_up ou wr b.toNatClampNeg, wr + 1)) := hD
          have hq9 : pX4_putByte m0 m1 m2 m3 m4 m5 m6 m7 m8 m9 cd row sz1 nd tg st ln pa rd of ar dp at_ rs fd pl tx ou wr op on dn b (nI 0) (nI 0, va_up ou wr b.toNatClampNeg, wr + 1) := (by have e : pbC b on wr ou op = 0 := (by unfold pbC; rw [if_neg (fun h => h (by assumption)), if_neg (by omega), if_neg (by omega)]); exact ⟨⟨e.symm, Or.inl ⟨e, by assumption, by omega, rfl, rfl⟩⟩, rfl⟩)
          exact W.iret (v := nI 0) hx hb hr (fun t ht hW => ⟨⟨nI 0, (nI 0, va_up ou wr b.toNatClampNeg, wr + 1), rfl, hq9, by rw [ht]; exact hP9, va_K.moved hW.alike hK, hD9⟩, hS.F ht⟩) hS.2.2 dX4_putByte_67
        · refine lv_bipush (v := (-3)) hx hb dX4_putByte_43 (by decide) ?_
          have hP9 : va_P (dC, dI) vwCl (vX4_putByte cA m0 m1 m2 m3 m4 m5 m6 m7 m8 m9 cd row sz1 nd tg st ln pa rd of ar dp at_ rs fd pl tx ou wr op on dn b (nI 0, ou, wr)) _ := hP
          have hD9 : va_D A (vX4_putByte cA m0 m1 m2 m3 m4 m5 m6 m7 m8 m9 cd row sz1 nd tg st ln pa rd of ar dp at_ rs fd pl tx ou wr op on dn b (nI 0, ou, wr)) := hD
          have hq9 : pX4_putByte m0 m1 m2 m3 m4 m5 m6 m7 m8 m9 cd row sz1 nd tg st ln pa rd of ar dp at_ rs fd pl tx ou wr op on dn b ((-3)) (nI 0, ou, wr) := (by have e : pbC b on wr ou op = (-3) := (by unfold pbC; rw [if_neg (fun h => h (by assumption)), if_neg (by omega), if_pos (by omega)]); exact ⟨⟨e.symm, Or.inr ⟨by rw [e]; decide, rfl, rfl⟩⟩, rfl⟩)
          exact W.iret (v := (-3)) hx hb hr (fun t ht hW => ⟨⟨(-3), (nI 0, ou, wr), rfl, hq9, by rw [ht]; exact hP9, va_K.moved hW.alike hK, hD9⟩, hS.F ht⟩) hS.2.2 dX4_putByte_45
      · refine lv_bipush (v := (-2)) hx hb dX4_putByte_30 (by decide) ?_
        have hP9 : va_P (dC, dI) vwCl (vX4_putByte cA m0 m1 m2 m3 m4 m5 m6 m7 m8 m9 cd row sz1 nd tg st ln pa rd of ar dp at_ rs fd pl tx ou wr op on dn b (nI 0, ou, wr)) _ := hP
        have hD9 : va_D A (vX4_putByte cA m0 m1 m2 m3 m4 m5 m6 m7 m8 m9 cd row sz1 nd tg st ln pa rd of ar dp at_ rs fd pl tx ou wr op on dn b (nI 0, ou, wr)) := hD
        have hq9 : pX4_putByte m0 m1 m2 m3 m4 m5 m6 m7 m8 m9 cd row sz1 nd tg st ln pa rd of ar dp at_ rs fd pl tx ou wr op on dn b ((-2)) (nI 0, ou, wr) := (by have e : pbC b on wr ou op = (-2) := (by unfold pbC; rw [if_neg (fun h => h (by assumption)), if_pos (by omega)]); exact ⟨⟨e.symm, Or.inr ⟨by rw [e]; decide, rfl, rfl⟩⟩, rfl⟩)
        exact W.iret (v := (-2)) hx hb hr (fun t ht hW => ⟨⟨(-2), (nI 0, ou, wr), rfl, hq9, by rw [ht]; exact hP9, va_K.moved hW.alike hK, hD9⟩, hS.F ht⟩) hS.2.2 dX4_putByte_32
  · refine lv_iconst (v := (-1)) hx hb dX4_putByte_12 (by decide) ?_
    have hP9 : va_P (dC, dI) vwCl (vX4_putByte cA m0 m1 m2 m3 m4 m5 m6 m7 m8 m9 cd row sz1 nd tg st ln pa rd of ar dp at_ rs fd pl tx ou wr op on dn b (nI 0, ou, wr)) _ := hP
    have hD9 : va_D A (vX4_putByte cA m0 m1 m2 m3 m4 m5 m6 m7 m8 m9 cd row sz1 nd tg st ln pa rd of ar dp at_ rs fd pl tx ou wr op on dn b (nI 0, ou, wr)) := hD
    have hq9 : pX4_putByte m0 m1 m2 m3 m4 m5 m6 m7 m8 m9 cd row sz1 nd tg st ln pa rd of ar dp at_ rs fd pl tx ou wr op on dn b ((-1)) (nI 0, ou, wr) := (by have e : pbC b on wr ou op = (-1) := (by unfold pbC; rw [if_pos (by assumption)]); exact ⟨⟨e.symm, Or.inr ⟨by rw [e]; decide, rfl, rfl⟩⟩, rfl⟩)
    exact W.iret (v := (-1)) hx hb hr (fun t ht hW => ⟨⟨(-1), (nI 0, ou, wr), rfl, hq9, by rw [ht]; exact hP9, va_K.moved hW.alike hK, hD9⟩, hS.F ht⟩) hS.2.2 dX4_putByte_13
abbrev pX4_putInt (m0 : Nat) (m1 : Nat) (m2 : Nat) (m3 : Nat) (m4 : Nat) (m5 : Nat) (m6 : Nat) (m7 : Nat) (m8 : Nat) (m9 : Nat) (cd : Int32) (row : Nat → Nat) (sz1 : Nat) (nd : Nat) (tg : Nat → Nat) (st : Nat → Nat) (ln : Nat → Nat) (pa : Nat → Int32) (rd : Nat) (of : Int32) (ar : Nat → Nat) (dp : Nat) (at_ : Nat) (rs : Int32) (fd : Nat) (pl : Int32) (tx : Nat → Nat) (ou : Nat → Nat) (wr : Nat) (op : Nat → Nat) (on : Nat) (dn : Nat) (v : Int32) : Int32 → Int32 × (Nat → Nat) × Nat → Prop := fun (r : Int32) (u : Int32 × (Nat → Nat) × Nat) => match u with | (cd2, ou2, wr2) => (r = piC v on wr ou op ∧ ((piC v on wr ou op = 0 ∧ wr + intSz v ≤ 300 ∧ ou2 = pB ou wr (byN v) (intSz v) (intSz v) ∧ wr2 = wr + intSz v) ∨ (piC v on wr ou op ≠ 0 ∧ ou2 = ou ∧ wr2 = wr))) ∧ cd2 = nI 0
abbrev vX4_putInt (cA : ClassId) (m0 : Nat) (m1 : Nat) (m2 : Nat) (m3 : Nat) (m4 : Nat) (m5 : Nat) (m6 : Nat) (m7 : Nat) (m8 : Nat) (m9 : Nat) (cd : Int32) (row : Nat → Nat) (sz1 : Nat) (nd : Nat) (tg : Nat → Nat) (st : Nat → Nat) (ln : Nat → Nat) (pa : Nat → Int32) (rd : Nat) (of : Int32) (ar : Nat → Nat) (dp : Nat) (at_ : Nat) (rs : Int32) (fd : Nat) (pl : Int32) (tx : Nat → Nat) (ou : Nat → Nat) (wr : Nat) (op : Nat → Nat) (on : Nat) (dn : Nat) (v : Int32) : Int32 × (Nat → Nat) × Nat → va_W := fun (u : Int32 × (Nat → Nat) × Nat) => match u with | (cd2, ou2, wr2) => wM cA m0 m1 m2 m3 m4 m5 m6 m7 m8 m9 cd2 row sz1 nd tg st ln pa rd of ar dp at_ rs fd pl tx ou2 wr2 op on dn
abbrev qX4_putInt (dC : Nat → ClassId) (dI : Nat → Nat → Nat) (cA : ClassId) (A : Nat → Prop) (m0 : Nat) (m1 : Nat) (m2 : Nat) (m3 : Nat) (m4 : Nat) (m5 : Nat) (m6 : Nat) (m7 : Nat) (m8 : Nat) (m9 : Nat) (cd : Int32) (row : Nat → Nat) (sz1 : Nat) (nd : Nat) (tg : Nat → Nat) (st : Nat → Nat) (ln : Nat → Nat) (pa : Nat → Int32) (rd : Nat) (of : Int32) (ar : Nat → Nat) (dp : Nat) (at_ : Nat) (rs : Int32) (fd : Nat) (pl : Int32) (tx : Nat → Nat) (ou : Nat → Nat) (wr : Nat) (op : Nat → Nat) (on : Nat) (dn : Nat) (v : Int32) : Array Value → State → Outcome → State → Prop := va_Qi (pX4_putInt m0 m1 m2 m3 m4 m5 m6 m7 m8 m9 cd row sz1 nd tg st ln pa rd of ar dp at_ rs fd pl tx ou wr op on dn v) (fun u => cAft dC dI cA A (vX4_putInt cA m0 m1 m2 m3 m4 m5 m6 m7 m8 m9 cd row sz1 nd tg st ln pa rd of ar dp at_ rs fd pl tx ou wr op on dn v u)) A
set_option maxHeartbeats 4000000 in
set_option maxRecDepth 100000 in
theorem k_X4_putInt (l : Launch) (dC : Nat → ClassId) (dI : Nat → Nat → Nat) (cA : ClassId) (m0 : Nat) (m1 : Nat) (m2 : Nat) (m3 : Nat) (m4 : Nat) (m5 : Nat) (m6 : Nat) (m7 : Nat) (m8 : Nat) (m9 : Nat) (cd : Int32) (row : Nat → Nat) (sz1 : Nat) (nd : Nat) (tg : Nat → Nat) (st : Nat → Nat) (ln : Nat → Nat) (pa : Nat → Int32) (rd : Nat) (of : Int32) (ar : Nat → Nat) (dp : Nat) (at_ : Nat) (rs : Int32) (fd : Nat) (pl : Int32) (tx : Nat → Nat) (ou : Nat → Nat) (wr : Nat) (op : Nat → Nat) (on : Nat) (dn : Nat) (v : Int32) (sz : Nat) (hou : ∀ j, ou j < 256) (hwr : wr ≤ 300) (hon : on ≤ 16) (hop : ∀ j, j < on → op j < wr) : Met l yX4_putInt wsX4_putInt ({ frames := 1, cells := 0, slots := 0, locals := 20 } : Room) (va_Pc [.ref m0, .int v] (cPre dC dI cA (wM cA m0 m1 m2 m3 m4 m5 m6 m7 m8 m9 cd row sz1 nd tg st ln pa rd of ar dp at_ rs fd pl tx ou wr op on dn) sz)) (qX4_putInt dC dI cA (va_A (wM cA m0 m1 m2 m3 m4 m5 m6 m7 m8 m9 cd row sz1 nd tg st ln pa rd of ar dp at_ rs fd pl tx ou wr op on dn) sz) m0 m1 m2 m3 m4 m5 m6 m7 m8 m9 cd row sz1 nd tg st ln pa rd of ar dp at_ rs fd pl tx ou wr op on dn v) 0 0 (va_A (wM cA m0 m1 m2 m3 m4 m5 m6 m7 m8 m9 cd row sz1 nd tg st ln pa rd of ar dp at_ rs fd pl tx ou wr op on dn) sz) := by
  refine Met.ofW (cc := cX4_putInt) (maxL := 4) (ret := (some .int)) (by decide) rfl ?_
  intro p e s m args below meth c s₁ B hml hv
  obtain ⟨rfl, hsz, hP, hK, hD0⟩ := hv
  have hx := B.exec
  have hb := B.bytes
  have hr := B.returns
  have hts := atoms_spec (ws := wsX4_putInt) B.pre
  have hown : s.vm.findClass RX4 = some m.cls := findClass_of_methodNamed B.named
  have hlocks := B.notSynchronized
  subst hsz
  have hD := hD0.self (sz := s.heap.size)
  generalize hAe : va_A (wM cA m0 m1 m2 m3 m4 m5 m6 m7 m8 m9 cd row sz1 nd tg st ln pa rd of ar dp at_ rs fd pl tx ou wr op on dn) s.heap.size = A at hD ⊢
  have hA : ∀ q : Nat, s.heap.size ≤ q → A q := fun q h => by rw [← hAe]; exact Or.inr h
  have hS : va_S A s.heap s.heap [] := va_S.rf
  have hl := lv_entry ([.ref m0, .int v]) (n := 4) (Nat.le_of_ble_eq_true rfl)
  rw [lg_entry_eq]
  generalize (lg_sl ([.ref m0, .int v]) ++ List.replicate (4 - (lg_sl ([.ref m0, .int v])).length) Slot.unset).toArray = ls at hl ⊢
  have hl : lv_has ls 4 [(0, .ref m0), (1, .int v)] := hl
  have hinX4 : ∀ w ∈ wsX40, w ∈ wsX4_putInt := fun _ h => List.mem_cons_of_mem _ (List.mem_append_right _ h)
  have hf_35 := hts (.fieldLink RX4 35 "DerDeskModel" "output" "[I") (by decide +kernel)
  have hf_38 := hts (.fieldLink RX4 38 "DerDeskModel" "opens" "[I") (by decide +kernel)
  have hf_41 := hts (.fieldLink RX4 41 "DerDeskModel" "code" "I") (by decide +kernel)
  have hf_112 := hts (.fieldLink RX4 112 "DerDeskModel" "written" "I") (by decide +kernel)
  have hf_115 := hts (.fieldLink RX4 115 "DerDeskModel" "open" "I") (by decide +kernel)
  have hP : va_P (dC, dI) vwCl (wM cA m0 m1 m2 m3 m4 m5 m6 m7 m8 m9 cd row sz1 nd tg st ln pa rd of ar dp at_ rs fd pl tx ou wr op on dn) s.heap := hP
  refine lv_aload_n hx hb dX4_putInt_0 rfl (lv_at hl 0 rfl) ?_
  refine lv_iconst (v := nI 0) hx hb dX4_putInt_1 (by decide) ?_
  refine va_put (D := (dC, dI)) (ci := 3) (v := .int (nI 0)) (ty := .int) (C := RX4) (T := TX4) (N := 22) hx hb hts hinX4 tyX4 tyX4_ok nmX4 hown hK hP hD hS 0 rfl rfl 0 (by decide) hf_41 (fun _ h9 => h9) rfl (by decide +kernel) rfl rfl (Nat.le_of_ble_eq_true rfl) dX4_putInt_2 (fun H locs hP hD hS => ?_)
  have hP : va_P (dC, dI) vwCl (wM cA m0 m1 m2 m3 m4 m5 m6 m7 m8 m9 (nI 0) row sz1 nd tg st ln pa rd of ar dp at_ rs fd pl tx ou wr op on dn) H := hP
  have hD : va_D A (wM cA m0 m1 m2 m3 m4 m5 m6 m7 m8 m9 (nI 0) row sz1 nd tg st ln pa rd of ar dp at_ rs fd pl tx ou wr op on dn) := hD
  refine lv_aload_n hx hb dX4_putInt_5 rfl (lv_at hl 0 rfl) ?_
  refine va_get (D := (dC, dI)) (ci := 3) (v := .int (nI on)) (C := RX4) (T := TX4) (N := 22) hx hb hts hinX4 hown hK hP 0 rfl rfl 20 (by decide) hf_115 (fun _ h9 => h9) rfl dX4_putInt_6 ?_
  refine hl_if_eq (tgt := 40) hx hb dX4_putInt_9 (by decide) (by omega) (fun c_1 => ?_) (fun c_1 => ?_)
  · refine lv_bipush (v := (-2)) hx hb dX4_putInt_40 (by decide) ?_
    have hP9 : va_P (dC, dI) vwCl (vX4_putInt cA m0 m1 m2 m3 m4 m5 m6 m7 m8 m9 cd row sz1 nd tg st ln pa rd of ar dp at_ rs fd pl tx ou wr op on dn v (nI 0, ou, wr)) _ := hP
    have hD9 : va_D A (vX4_putInt cA m0 m1 m2 m3 m4 m5 m6 m7 m8 m9 cd row sz1 nd tg st ln pa rd of ar dp at_ rs fd pl tx ou wr op on dn v (nI 0, ou, wr)) := hD
    have hq9 : pX4_putInt m0 m1 m2 m3 m4 m5 m6 m7 m8 m9 cd row sz1 nd tg st ln pa rd of ar dp at_ rs fd pl tx ou wr op on dn v ((-2)) (nI 0, ou, wr) := (by have e : piC v on wr ou op = (-2) := (by unfold piC; rw [if_pos (by omega)]); exact ⟨⟨e.symm, Or.inr ⟨by rw [e]; decide, rfl, rfl⟩⟩, rfl⟩)
    exact W.iret (v := (-2)) hx hb hr (fun t ht hW => ⟨⟨(-2), (nI 0, ou, wr), rfl, hq9, by rw [ht]; exact hP9, va_K.moved hW.alike hK, hD9⟩, hS.F ht⟩) hS.2.2 dX4_putInt_42
  · refine lv_aload_n hx hb dX4_putInt_12 rfl (lv_at hl 0 rfl) ?_
    refine cl_Vi (As := []) (rest := []) (wr := []) ⟨hx, hb, hml, hown, hts⟩ (k_X4_openTag l dC dI cA m0 m1 m2 m3 m4 m5 m6 m7 m8 m9 (nI 0) row sz1 nd tg st ln pa rd of ar dp at_ rs fd pl tx ou wr op on dn _ hou hwr hon hop) (cwV 0 hts gX4_putInt_X4_openTag rfl rfl rfl (by decide +kernel) ⟨Nat.le_of_ble_eq_true rfl, Nat.le_of_ble_eq_true rfl⟩) hK hP hD hS hA [0, 1, 2, 3, 4, 5, 6, 7, 8, 9] [] rfl rfl (by decide) (by decide) (by decide) (ci := 3) (q0 := 0) rfl rfl rfl rfl hl.1 rfl (Nat.le_of_ble_eq_true rfl) dX4_putInt_13 ⟨Nat.le_of_ble_eq_true rfl, Nat.le_of_ble_eq_true rfl⟩ (fun r_2 u_2 H locs hw_2 hP hD hS => ?_)
    have hP : va_P (dC, dI) vwCl (wM cA m0 m1 m2 m3 m4 m5 m6 m7 m8 m9 (nI 0) row sz1 nd tg st ln pa rd of ar dp at_ rs fd pl tx ou wr op on dn) H := hP
    have hD : va_D A (wM cA m0 m1 m2 m3 m4 m5 m6 m7 m8 m9 (nI 0) row sz1 nd tg st ln pa rd of ar dp at_ rs fd pl tx ou wr op on dn) := hD
    have hw_2 : (on = 0 ∧ r_2 = -1) ∨ (0 < on ∧ r_2 = nI (ou (op (on - 1)))) := hw_2
    have hw_2 := ((hw_2.resolve_left (fun h => absurd h.1 (by omega))).2).symm
    subst hw_2
    have hv_2 := hou (op (on - 1))
    refine lv_iconst (v := nI 2) hx hb dX4_putInt_16 (by decide) ?_
    refine hl_icmp_ne (tgt := 40) hx hb dX4_putInt_17 (by decide) (by omega) (by omega) (fun c_3 => ?_) (fun c_3 => ?_)
    · refine lv_bipush (v := (-2)) hx hb dX4_putInt_40 (by decide) ?_
      have hP9 : va_P (dC, dI) vwCl (vX4_putInt cA m0 m1 m2 m3 m4 m5 m6 m7 m8 m9 cd row sz1 nd tg st ln pa rd of ar dp at_ rs fd pl tx ou wr op on dn v (nI 0, ou, wr)) _ := hP
      have hD9 : va_D A (vX4_putInt cA m0 m1 m2 m3 m4 m5 m6 m7 m8 m9 cd row sz1 nd tg st ln pa rd of ar dp at_ rs fd pl tx ou wr op on dn v (nI 0, ou, wr)) := hD
      have hq9 : pX4_putInt m0 m1 m2 m3 m4 m5 m6 m7 m8 m9 cd row sz1 nd tg st ln pa rd of ar dp at_ rs fd pl tx ou wr op on dn v ((-2)) (nI 0, ou, wr) := (by have e : piC v on wr ou op = (-2) := (by unfold piC; rw [if_pos (by omega)]); exact ⟨⟨e.symm, Or.inr ⟨by rw [e]; decide, rfl, rfl⟩⟩, rfl⟩)
      exact W.iret (v := (-2)) hx hb hr (fun t ht hW => ⟨⟨(-2), (nI 0, ou, wr), rfl, hq9, by rw [ht]; exact hP9, va_K.moved hW.alike hK, hD9⟩, hS.F ht⟩) hS.2.2 dX4_putInt_42
    · refine lv_aload_n hx hb dX4_putInt_20 rfl (lv_at hl 0 rfl) ?_
      refine va_get (D := (dC, dI)) (ci := 3) (v := .int (nI wr)) (C := RX4) (T := TX4) (N := 22) hx hb hts hinX4 hown hK hP 0 rfl rfl 18 (by decide) hf_112 (fun _ h9 => h9) rfl dX4_putInt_21 ?_
      refine lv_aload_n hx hb dX4_putInt_24 rfl (lv_at hl 0 rfl) ?_
      refine va_get (D := (dC, dI)) (ci := 3) (v := .ref m9) (C := RX4) (T := TX4) (N := 22) hx hb hts hinX4 hown hK hP 0 rfl rfl 19 (by decide) hf_38 (fun _ h9 => h9) rfl dX4_putInt_25 ?_
      refine lv_aload_n hx hb dX4_putInt_28 rfl (lv_at hl 0 rfl) ?_
      refine va_get (D := (dC, dI)) (ci := 3) (v := .int (nI on)) (C := RX4) (T := TX4) (N := 22) hx hb hts hinX4 hown hK hP 0 rfl rfl 20 (by decide) hf_115 (fun _ h9 => h9) rfl dX4_putInt_29 ?_
      refine lv_iconst (v := nI 1) hx hb dX4_putInt_32 (by decide) ?_
      refine hl_isub hx hb (by omega) dX4_putInt_33 ?_
      have hoo := hop (on - 1) (by omega)
      refine hl_iald hx hb hK hP 9 0 rfl rfl (by omega) (by decide) dX4_putInt_34 ?_
      refine lv_iconst (v := nI 1) hx hb dX4_putInt_35 (by decide) ?_
      refine hl_iadd hx hb dX4_putInt_36 ?_
      refine hl_icmp_eq (tgt := 43) hx hb dX4_putInt_37 (by decide) (by omega) (by omega) (fun c_4 => ?_) (fun c_4 => ?_)
      · refine lv_iconst (v := nI 4) hx hb dX4_putInt_43 (by decide) ?_
        refine lv_istore_n (lv' := [(2, .int (nI 4)), (0, .ref m0), (1, .int v)]) hx hb dX4_putInt_44 rfl hl (by decide) rfl (fun ls hl => ?_)
        refine lv_iload_n hx hb dX4_putInt_45 rfl (lv_at hl 0 rfl) ?_
        refine lv_iconst (v := nI 1) hx hb dX4_putInt_46 (by decide) ?_
        refine hl_icmp_le (tgt := 81) hx hb dX4_putInt_47 (by decide) (by omega) (by omega) (fun c_5 => absurd c_5 (by decide)) (fun c_5 => ?_)
        refine lv_iload_n hx hb dX4_putInt_50 rfl (lv_at hl 2 rfl) ?_
        refine lv_bipush (v := nI 32) hx hb dX4_putInt_51 (by decide) ?_
        refine lv_bipush (v := nI 8) hx hb dX4_putInt_53 (by decide) ?_
        refine lv_iload_n hx hb dX4_putInt_55 rfl (lv_at hl 0 rfl) ?_
        refine lv_iconst (v := nI 1) hx hb dX4_putInt_56 (by decide) ?_
        refine lv_isub hx hb dX4_putInt_57 ?_
        refine hl_top (show _ = nI 3 by decide) ?_
        refine lv_imul hx hb dX4_putInt_58 ?_
        refine hl_top (show _ = nI 24 by decide) ?_
        refine lv_isub hx hb dX4_putInt_59 ?_
        refine hl_top (show _ = nI 8 by decide) ?_
        refine lv_ishl hx hb dX4_putInt_60 ?_
        refine lv_bipush (v := nI 32) hx hb dX4_putInt_61 (by decide) ?_
        refine lv_bipush (v := nI 8) hx hb dX4_putInt_63 (by decide) ?_
        refine lv_iload_n hx hb dX4_putInt_65 rfl (lv_at hl 0 rfl) ?_
        refine lv_iconst (v := nI 1) hx hb dX4_putInt_66 (by decide) ?_
        refine lv_isub hx hb dX4_putInt_67 ?_
        refine hl_top (show _ = nI 3 by decide) ?_
        refine lv_imul hx hb dX4_putInt_68 ?_
        refine hl_top (show _ = nI 24 by decide) ?_
        refine lv_isub hx hb dX4_putInt_69 ?_
        refine hl_top (show _ = nI 8 by decide) ?_
        refine lv_ishr hx hb dX4_putInt_70 ?_
        refine lv_iload_n hx hb dX4_putInt_71 rfl (lv_at hl 2 rfl) ?_
        refine lv_icmp_ne (tgt := 81) hx hb dX4_putInt_72 (by decide) (fun c_6 => ?_) (fun c_6 => ?_)
        · have hsz : intSz v = 4 := intSz_4 (by assumption)
          refine lv_aload_n hx hb dX4_putInt_81 rfl (lv_at hl 1 rfl) ?_
          refine va_get (D := (dC, dI)) (ci := 3) (v := .int (nI wr)) (C := RX4) (T := TX4) (N := 22) hx hb hts hinX4 hown hK hP 0 rfl rfl 18 (by decide) hf_112 (fun _ h9 => h9) rfl dX4_putInt_82 ?_
          refine lv_iload_n hx hb dX4_putInt_85 rfl (lv_at hl 0 rfl) ?_
          refine hl_iadd hx hb dX4_putInt_86 ?_
          refine lv_sipush (v := nI 300) hx hb dX4_putInt_87 (by decide) ?_
          refine hl_icmp_le (tgt := 96) hx hb dX4_putInt_90 (by decide) (by omega) (by omega) (fun c_7 => ?_) (fun c_7 => ?_)
          · refine lv_iload_n hx hb dX4_putInt_96 rfl (lv_at hl 0 rfl) ?_
            refine lv_iconst (v := nI 1) hx hb dX4_putInt_97 (by decide) ?_
            refine lv_isub hx hb dX4_putInt_98 ?_
            refine hl_top (show _ = nI 3 by decide) ?_
            refine lv_istore_n (lv' := [(3, .int (nI 3)), (2, .int (nI 4)), (0, .ref m0), (1, .int v)]) hx hb dX4_putInt_99 rfl hl (by decide) rfl (fun ls hl => ?_)
            have lp_100 : ∀ (nf : Nat) (k : Nat) (ou1 : Nat → Nat) (wr1 : Nat), k < nf → (k ≤ intSz v) → (ou1 = pB ou wr (byN v) (intSz v) (intSz v - k)) → (wr1 = wr + (intSz v - k)) → ∀ (H : Heap) (locs : List Loc) (ls : Array Slot), va_P (dC, dI) vwCl (wM cA m0 m1 m2 m3 m4 m5 m6 m7 m8 m9 (nI 0) row sz1 nd tg st ln pa rd of ar dp at_ rs fd pl tx ou1 wr1 op on dn) H → va_D A (wM cA m0 m1 m2 m3 m4 m5 m6 m7 m8 m9 (nI 0) row sz1 nd tg st ln pa rd of ar dp at_ rs fd pl tx ou1 wr1 op on dn) → va_S A s.heap H locs → lv_has ls 4 [(3, .int (mI k)), (2, .int (nI 4)), (0, .ref m0), (1, .int v)] → W p l e (headSpec wsX4_putInt ({ frames := 1, cells := 0, slots := 0, locals := 20 } : Room)).room s m ([.ref m0, .int v] : List Value).toArray below meth c H locs 0 0 (MQ below (qX4_putInt dC dI cA A m0 m1 m2 m3 m4 m5 m6 m7 m8 m9 cd row sz1 nd tg st ln pa rd of ar dp at_ rs fd pl tx ou wr op on dn v) ([.ref m0, .int v] : List Value).toArray s 0 0 A) (F0 m 100 ls []) := by
              intro nf
              induction nf with
              | zero =>
                intro k ou1 wr1 hm
                exact absurd hm (Nat.not_lt_zero _)
              | succ nf ih_100 =>
                intro k ou1 wr1 hm hk hou1 hwr1 H locs ls hP hD hS hl
                cases k with
                | zero =>
                  refine lv_iload_n hx hb dX4_putInt_100 rfl (lv_at hl 0 rfl) ?_
                  refine lv_if_lt (tgt := 139) hx hb dX4_putInt_101 (by decide) (fun c_9 => ?_) (fun c_9 => absurd (by decide) c_9)
                  refine lv_iconst (v := nI 0) hx hb dX4_putInt_139 (by decide) ?_
                  have hP9 : va_P (dC, dI) vwCl (vX4_putInt cA m0 m1 m2 m3 m4 m5 m6 m7 m8 m9 cd row sz1 nd tg st ln pa rd of ar dp at_ rs fd pl tx ou wr op on dn v (nI 0, ou1, wr1)) _ := hP
                  have hD9 : va_D A (vX4_putInt cA m0 m1 m2 m3 m4 m5 m6 m7 m8 m9 cd row sz1 nd tg st ln pa rd of ar dp at_ rs fd pl tx ou wr op on dn v (nI 0, ou1, wr1)) := hD
                  have hq9 : pX4_putInt m0 m1 m2 m3 m4 m5 m6 m7 m8 m9 cd row sz1 nd tg st ln pa rd of ar dp at_ rs fd pl tx ou wr op on dn v (nI 0) (nI 0, ou1, wr1) := (by have e : piC v on wr ou op = 0 := (by unfold piC; rw [if_neg (by omega), if_neg (by omega)]); exact ⟨⟨e.symm, Or.inl ⟨e, by omega, hou1, by omega⟩⟩, rfl⟩)
                  exact W.iret (v := nI 0) hx hb hr (fun t ht hW => ⟨⟨nI 0, (nI 0, ou1, wr1), rfl, hq9, by rw [ht]; exact hP9, va_K.moved hW.alike hK, hD9⟩, hS.F ht⟩) hS.2.2 dX4_putInt_140
                | succ k =>
                  have hl : lv_has ls 4 [(3, .int (nI k)), (2, .int (nI 4)), (0, .ref m0), (1, .int v)] := hl
                  refine lv_iload_n hx hb dX4_putInt_100 rfl (lv_at hl 0 rfl) ?_
                  refine hl_if_lt (tgt := 139) hx hb dX4_putInt_101 (by decide) (by omega) (fun c_10 => absurd c_10 (by omega)) (fun c_10 => ?_)
                  refine lv_aload_n hx hb dX4_putInt_104 rfl (lv_at hl 2 rfl) ?_
                  refine va_get (D := (dC, dI)) (ci := 3) (v := .ref m8) (C := RX4) (T := TX4) (N := 22) hx hb hts hinX4 hown hK hP 0 rfl rfl 17 (by decide) hf_35 (fun _ h9 => h9) rfl dX4_putInt_105 ?_
                  refine lv_aload_n hx hb dX4_putInt_108 rfl (lv_at hl 2 rfl) ?_
                  refine va_get (D := (dC, dI)) (ci := 3) (v := .int (nI wr1)) (C := RX4) (T := TX4) (N := 22) hx hb hts hinX4 hown hK hP 0 rfl rfl 18 (by decide) hf_112 (fun _ h9 => h9) rfl dX4_putInt_109 ?_
                  refine lv_iload_n hx hb dX4_putInt_112 rfl (lv_at hl 3 rfl) ?_
                  refine lv_bipush (v := nI 8) hx hb dX4_putInt_113 (by decide) ?_
                  refine lv_iload_n hx hb dX4_putInt_115 rfl (lv_at hl 0 rfl) ?_
                  refine hl_imul hx hb dX4_putInt_116 ?_
                  refine lv_ishr hx hb dX4_putInt_117 ?_
                  refine lv_sipush (v := nI 255) hx hb dX4_putInt_118 (by decide) ?_
                  refine lv_iand hx hb dX4_putInt_121 ?_
                  refine hl_top (byN_eq v k) ?_
                  refine hl_iast hx hb hK hP hD hS 8 0 rfl rfl (by omega) (by decide) dX4_putInt_122 (fun H locs hP hD hS => ?_)
                  have hP : va_P (dC, dI) vwCl (wM cA m0 m1 m2 m3 m4 m5 m6 m7 m8 m9 (nI 0) row sz1 nd tg st ln pa rd of ar dp at_ rs fd pl tx (va_up ou1 wr1 (byN v k)) wr1 op on dn) H := hP
                  have hD : va_D A (wM cA m0 m1 m2 m3 m4 m5 m6 m7 m8 m9 (nI 0) row sz1 nd tg st ln pa rd of ar dp at_ rs fd pl tx (va_up ou1 wr1 (byN v k)) wr1 op on dn) := hD
                  refine lv_aload_n hx hb dX4_putInt_123 rfl (lv_at hl 2 rfl) ?_
                  refine lv_dup hx hb dX4_putInt_124 rfl ?_
                  refine va_get (D := (dC, dI)) (ci := 3) (v := .int (nI wr1)) (C := RX4) (T := TX4) (N := 22) hx hb hts hinX4 hown hK hP 0 rfl rfl 18 (by decide) hf_112 (fun _ h9 => h9) rfl dX4_putInt_125 ?_
                  refine lv_iconst (v := nI 1) hx hb dX4_putInt_128 (by decide) ?_
                  refine hl_iadd hx hb dX4_putInt_129 ?_
                  refine va_put (D := (dC, dI)) (ci := 3) (v := .int (nI (wr1 + 1))) (ty := .int) (C := RX4) (T := TX4) (N := 22) hx hb hts hinX4 tyX4 tyX4_ok nmX4 hown hK hP hD hS 0 rfl rfl 18 (by decide) hf_112 (fun _ h9 => h9) rfl (by decide +kernel) rfl rfl (Nat.le_of_ble_eq_true rfl) dX4_putInt_130 (fun H locs hP hD hS => ?_)
                  have hP : va_P (dC, dI) vwCl (wM cA m0 m1 m2 m3 m4 m5 m6 m7 m8 m9 (nI 0) row sz1 nd tg st ln pa rd of ar dp at_ rs fd pl tx (va_up ou1 wr1 (byN v k)) (wr1 + 1) op on dn) H := hP
                  have hD : va_D A (wM cA m0 m1 m2 m3 m4 m5 m6 m7 m8 m9 (nI 0) row sz1 nd tg st ln pa rd of ar dp at_ rs fd pl tx (va_up ou1 wr1 (byN v k)) (wr1 + 1) op on dn) := hD
                  refine lv_iinc (v := (mI k)) (lv' := [(3, .int (mI k)), (2, .int (nI 4)), (0, .ref m0), (1, .int v)]) hx hb dX4_putInt_133 hl (k := 0) rfl (mI_dec k) (by decide) rfl (fun ls hl => ?_)
                  refine lv_goto (tgt := 100) hx hb dX4_putInt_136 (by decide) ?_
                  exact ih_100 k (va_up ou1 wr1 (byN v k)) (wr1 + 1) (by omega) (by omega) (by rw [hou1, hwr1]; exact pB_step _ _ _ hk) (by omega) _ _ _ hP hD hS (lv_sub hl [0, 1, 2, 3] rfl)
            exact lp_100 ((3 + 1) + 1) (3 + 1) ou wr (Nat.lt_succ_self _) (by omega) (by rw [Nat.sub_eq_zero_of_le (by omega)]; rfl) (by omega) _ _ _ hP hD hS (lv_sub hl [0, 1, 2, 3] rfl)
          · refine lv_bipush (v := (-3)) hx hb dX4_putInt_93 (by decide) ?_
            have hP9 : va_P (dC, dI) vwCl (vX4_putInt cA m0 m1 m2 m3 m4 m5 m6 m7 m8 m9 cd row sz1 nd tg st ln pa rd of ar dp at_ rs fd pl tx ou wr op on dn v (nI 0, ou, wr)) _ := hP
            have hD9 : va_D A (vX4_putInt cA m0 m1 m2 m3 m4 m5 m6 m7 m8 m9 cd row sz1 nd tg st ln pa rd of ar dp at_ rs fd pl tx ou wr op on dn v (nI 0, ou, wr)) := hD
            have hq9 : pX4_putInt m0 m1 m2 m3 m4 m5 m6 m7 m8 m9 cd row sz1 nd tg st ln pa rd of ar dp at_ rs fd pl tx ou wr op on dn v ((-3)) (nI 0, ou, wr) := (by have e : piC v on wr ou op = (-3) := (by unfold piC; rw [if_neg (by omega), if_pos (by omega)]); exact ⟨⟨e.symm, Or.inr ⟨by rw [e]; decide, rfl, rfl⟩⟩, rfl⟩)
            exact W.iret (v := (-3)) hx hb hr (fun t ht hW => ⟨⟨(-3), (nI 0, ou, wr), rfl, hq9, by rw [ht]; exact hP9, va_K.moved hW.alike hK, hD9⟩, hS.F ht⟩) hS.2.2 dX4_putInt_95
        · refine lv_iinc (v := (nI 3)) (lv' := [(2, .int (nI 3)), (0, .ref m0), (1, .int v)]) hx hb dX4_putInt_75 hl (k := 0) rfl (by decide) (by decide) rfl (fun ls hl => ?_)
          refine lv_goto (tgt := 45) hx hb dX4_putInt_78 (by decide) ?_
          refine lv_iload_n hx hb dX4_putInt_45 rfl (lv_at hl 0 rfl) ?_
          refine lv_iconst (v := nI 1) hx hb dX4_putInt_46 (by decide) ?_
          refine hl_icmp_le (tgt := 81) hx hb dX4_putInt_47 (by decide) (by omega) (by omega) (fun c_11 => absurd c_11 (by decide)) (fun c_11 => ?_)
          refine lv_iload_n hx hb dX4_putInt_50 rfl (lv_at hl 2 rfl) ?_
          refine lv_bipush (v := nI 32) hx hb dX4_putInt_51 (by decide) ?_
          refine lv_bipush (v := nI 8) hx hb dX4_putInt_53 (by decide) ?_
          refine lv_iload_n hx hb dX4_putInt_55 rfl (lv_at hl 0 rfl) ?_
          refine lv_iconst (v := nI 1) hx hb dX4_putInt_56 (by decide) ?_
          refine lv_isub hx hb dX4_putInt_57 ?_
          refine hl_top (show _ = nI 2 by decide) ?_
          refine lv_imul hx hb dX4_putInt_58 ?_
          refine hl_top (show _ = nI 16 by decide) ?_
          refine lv_isub hx hb dX4_putInt_59 ?_
          refine hl_top (show _ = nI 16 by decide) ?_
          refine lv_ishl hx hb dX4_putInt_60 ?_
          refine lv_bipush (v := nI 32) hx hb dX4_putInt_61 (by decide) ?_
          refine lv_bipush (v := nI 8) hx hb dX4_putInt_63 (by decide) ?_
          refine lv_iload_n hx hb dX4_putInt_65 rfl (lv_at hl 0 rfl) ?_
          refine lv_iconst (v := nI 1) hx hb dX4_putInt_66 (by decide) ?_
          refine lv_isub hx hb dX4_putInt_67 ?_
          refine hl_top (show _ = nI 2 by decide) ?_
          refine lv_imul hx hb dX4_putInt_68 ?_
          refine hl_top (show _ = nI 16 by decide) ?_
          refine lv_isub hx hb dX4_putInt_69 ?_
          refine hl_top (show _ = nI 16 by decide) ?_
          refine lv_ishr hx hb dX4_putInt_70 ?_
          refine lv_iload_n hx hb dX4_putInt_71 rfl (lv_at hl 2 rfl) ?_
          refine lv_icmp_ne (tgt := 81) hx hb dX4_putInt_72 (by decide) (fun c_12 => ?_) (fun c_12 => ?_)
          · have hsz : intSz v = 3 := intSz_3 (by assumption) (by assumption)
            refine lv_aload_n hx hb dX4_putInt_81 rfl (lv_at hl 1 rfl) ?_
            refine va_get (D := (dC, dI)) (ci := 3) (v := .int (nI wr)) (C := RX4) (T := TX4) (N := 22) hx hb hts hinX4 hown hK hP 0 rfl rfl 18 (by decide) hf_112 (fun _ h9 => h9) rfl dX4_putInt_82 ?_
            refine lv_iload_n hx hb dX4_putInt_85 rfl (lv_at hl 0 rfl) ?_
            refine hl_iadd hx hb dX4_putInt_86 ?_
            refine lv_sipush (v := nI 300) hx hb dX4_putInt_87 (by decide) ?_
            refine hl_icmp_le (tgt := 96) hx hb dX4_putInt_90 (by decide) (by omega) (by omega) (fun c_13 => ?_) (fun c_13 => ?_)
            · refine lv_iload_n hx hb dX4_putInt_96 rfl (lv_at hl 0 rfl) ?_
              refine lv_iconst (v := nI 1) hx hb dX4_putInt_97 (by decide) ?_
              refine lv_isub hx hb dX4_putInt_98 ?_
              refine hl_top (show _ = nI 2 by decide) ?_
              refine lv_istore_n (lv' := [(3, .int (nI 2)), (2, .int (nI 3)), (0, .ref m0), (1, .int v)]) hx hb dX4_putInt_99 rfl hl (by decide) rfl (fun ls hl => ?_)
              have lp_100 : ∀ (nf : Nat) (k : Nat) (ou1 : Nat → Nat) (wr1 : Nat), k < nf → (k ≤ intSz v) → (ou1 = pB ou wr (byN v) (intSz v) (intSz v - k)) → (wr1 = wr + (intSz v - k)) → ∀ (H : Heap) (locs : List Loc) (ls : Array Slot), va_P (dC, dI) vwCl (wM cA m0 m1 m2 m3 m4 m5 m6 m7 m8 m9 (nI 0) row sz1 nd tg st ln pa rd of ar dp at_ rs fd pl tx ou1 wr1 op on dn) H → va_D A (wM cA m0 m1 m2 m3 m4 m5 m6 m7 m8 m9 (nI 0) row sz1 nd tg st ln pa rd of ar dp at_ rs fd pl tx ou1 wr1 op on dn) → va_S A s.heap H locs → lv_has ls 4 [(3, .int (mI k)), (2, .int (nI 3)), (0, .ref m0), (1, .int v)] → W p l e (headSpec wsX4_putInt ({ frames := 1, cells := 0, slots := 0, locals := 20 } : Room)).room s m ([.ref m0, .int v] : List Value).toArray below meth c H locs 0 0 (MQ below (qX4_putInt dC dI cA A m0 m1 m2 m3 m4 m5 m6 m7 m8 m9 cd row sz1 nd tg st ln pa rd of ar dp at_ rs fd pl tx ou wr op on dn v) ([.ref m0, .int v] : List Value).toArray s 0 0 A) (F0 m 100 ls []) := by
                intro nf
                induction nf with
                | zero =>
                  intro k ou1 wr1 hm
                  exact absurd hm (Nat.not_lt_zero _)
                | succ nf ih_100 =>
                  intro k ou1 wr1 hm hk hou1 hwr1 H locs ls hP hD hS hl
                  cases k with
                  | zero =>
                    refine lv_iload_n hx hb dX4_putInt_100 rfl (lv_at hl 0 rfl) ?_
                    refine lv_if_lt (tgt := 139) hx hb dX4_putInt_101 (by decide) (fun c_15 => ?_) (fun c_15 => absurd (by decide) c_15)
                    refine lv_iconst (v := nI 0) hx hb dX4_putInt_139 (by decide) ?_
                    have hP9 : va_P (dC, dI) vwCl (vX4_putInt cA m0 m1 m2 m3 m4 m5 m6 m7 m8 m9 cd row sz1 nd tg st ln pa rd of ar dp at_ rs fd pl tx ou wr op on dn v (nI 0, ou1, wr1)) _ := hP
                    have hD9 : va_D A (vX4_putInt cA m0 m1 m2 m3 m4 m5 m6 m7 m8 m9 cd row sz1 nd tg st ln pa rd of ar dp at_ rs fd pl tx ou wr op on dn v (nI 0, ou1, wr1)) := hD
                    have hq9 : pX4_putInt m0 m1 m2 m3 m4 m5 m6 m7 m8 m9 cd row sz1 nd tg st ln pa rd of ar dp at_ rs fd pl tx ou wr op on dn v (nI 0) (nI 0, ou1, wr1) := (by have e : piC v on wr ou op = 0 := (by unfold piC; rw [if_neg (by omega), if_neg (by omega)]); exact ⟨⟨e.symm, Or.inl ⟨e, by omega, hou1, by omega⟩⟩, rfl⟩)
                    exact W.iret (v := nI 0) hx hb hr (fun t ht hW => ⟨⟨nI 0, (nI 0, ou1, wr1), rfl, hq9, by rw [ht]; exact hP9, va_K.moved hW.alike hK, hD9⟩, hS.F ht⟩) hS.2.2 dX4_putInt_140
                  | succ k =>
                    have hl : lv_has ls 4 [(3, .int (nI k)), (2, .int (nI 3)), (0, .ref m0), (1, .int v)] := hl
                    refine lv_iload_n hx hb dX4_putInt_100 rfl (lv_at hl 0 rfl) ?_
                    refine hl_if_lt (tgt := 139) hx hb dX4_putInt_101 (by decide) (by omega) (fun c_16 => absurd c_16 (by omega)) (fun c_16 => ?_)
                    refine lv_aload_n hx hb dX4_putInt_104 rfl (lv_at hl 2 rfl) ?_
                    refine va_get (D := (dC, dI)) (ci := 3) (v := .ref m8) (C := RX4) (T := TX4) (N := 22) hx hb hts hinX4 hown hK hP 0 rfl rfl 17 (by decide) hf_35 (fun _ h9 => h9) rfl dX4_putInt_105 ?_
                    refine lv_aload_n hx hb dX4_putInt_108 rfl (lv_at hl 2 rfl) ?_
                    refine va_get (D := (dC, dI)) (ci := 3) (v := .int (nI wr1)) (C := RX4) (T := TX4) (N := 22) hx hb hts hinX4 hown hK hP 0 rfl rfl 18 (by decide) hf_112 (fun _ h9 => h9) rfl dX4_putInt_109 ?_
                    refine lv_iload_n hx hb dX4_putInt_112 rfl (lv_at hl 3 rfl) ?_
                    refine lv_bipush (v := nI 8) hx hb dX4_putInt_113 (by decide) ?_
                    refine lv_iload_n hx hb dX4_putInt_115 rfl (lv_at hl 0 rfl) ?_
                    refine hl_imul hx hb dX4_putInt_116 ?_
                    refine lv_ishr hx hb dX4_putInt_117 ?_
                    refine lv_sipush (v := nI 255) hx hb dX4_putInt_118 (by decide) ?_
                    refine lv_iand hx hb dX4_putInt_121 ?_
                    refine hl_top (byN_eq v k) ?_
                    refine hl_iast hx hb hK hP hD hS 8 0 rfl rfl (by omega) (by decide) dX4_putInt_122 (fun H locs hP hD hS => ?_)
                    have hP : va_P (dC, dI) vwCl (wM cA m0 m1 m2 m3 m4 m5 m6 m7 m8 m9 (nI 0) row sz1 nd tg st ln pa rd of ar dp at_ rs fd pl tx (va_up ou1 wr1 (byN v k)) wr1 op on dn) H := hP
                    have hD : va_D A (wM cA m0 m1 m2 m3 m4 m5 m6 m7 m8 m9 (nI 0) row sz1 nd tg st ln pa rd of ar dp at_ rs fd pl tx (va_up ou1 wr1 (byN v k)) wr1 op on dn) := hD
                    refine lv_aload_n hx hb dX4_putInt_123 rfl (lv_at hl 2 rfl) ?_
                    refine lv_dup hx hb dX4_putInt_124 rfl ?_
                    refine va_get (D := (dC, dI)) (ci := 3) (v := .int (nI wr1)) (C := RX4) (T := TX4) (N := 22) hx hb hts hinX4 hown hK hP 0 rfl rfl 18 (by decide) hf_112 (fun _ h9 => h9) rfl dX4_putInt_125 ?_
                    refine lv_iconst (v := nI 1) hx hb dX4_putInt_128 (by decide) ?_
                    refine hl_iadd hx hb dX4_putInt_129 ?_
                    refine va_put (D := (dC, dI)) (ci := 3) (v := .int (nI (wr1 + 1))) (ty := .int) (C := RX4) (T := TX4) (N := 22) hx hb hts hinX4 tyX4 tyX4_ok nmX4 hown hK hP hD hS 0 rfl rfl 18 (by decide) hf_112 (fun _ h9 => h9) rfl (by decide +kernel) rfl rfl (Nat.le_of_ble_eq_true rfl) dX4_putInt_130 (fun H locs hP hD hS => ?_)
                    have hP : va_P (dC, dI) vwCl (wM cA m0 m1 m2 m3 m4 m5 m6 m7 m8 m9 (nI 0) row sz1 nd tg st ln pa rd of ar dp at_ rs fd pl tx (va_up ou1 wr1 (byN v k)) (wr1 + 1) op on dn) H := hP
                    have hD : va_D A (wM cA m0 m1 m2 m3 m4 m5 m6 m7 m8 m9 (nI 0) row sz1 nd tg st ln pa rd of ar dp at_ rs fd pl tx (va_up ou1 wr1 (byN v k)) (wr1 + 1) op on dn) := hD
                    refine lv_iinc (v := (mI k)) (lv' := [(3, .int (mI k)), (2, .int (nI 3)), (0, .ref m0), (1, .int v)]) hx hb dX4_putInt_133 hl (k := 0) rfl (mI_dec k) (by decide) rfl (fun ls hl => ?_)
                    refine lv_goto (tgt := 100) hx hb dX4_putInt_136 (by decide) ?_
                    exact ih_100 k (va_up ou1 wr1 (byN v k)) (wr1 + 1) (by omega) (by omega) (by rw [hou1, hwr1]; exact pB_step _ _ _ hk) (by omega) _ _ _ hP hD hS (lv_sub hl [0, 1, 2, 3] rfl)
              exact lp_100 ((2 + 1) + 1) (2 + 1) ou wr (Nat.lt_succ_self _) (by omega) (by rw [Nat.sub_eq_zero_of_le (by omega)]; rfl) (by omega) _ _ _ hP hD hS (lv_sub hl [0, 1, 2, 3] rfl)
            · refine lv_bipush (v := (-3)) hx hb dX4_putInt_93 (by decide) ?_
              have hP9 : va_P (dC, dI) vwCl (vX4_putInt cA m0 m1 m2 m3 m4 m5 m6 m7 m8 m9 cd row sz1 nd tg st ln pa rd of ar dp at_ rs fd pl tx ou wr op on dn v (nI 0, ou, wr)) _ := hP
              have hD9 : va_D A (vX4_putInt cA m0 m1 m2 m3 m4 m5 m6 m7 m8 m9 cd row sz1 nd tg st ln pa rd of ar dp at_ rs fd pl tx ou wr op on dn v (nI 0, ou, wr)) := hD
              have hq9 : pX4_putInt m0 m1 m2 m3 m4 m5 m6 m7 m8 m9 cd row sz1 nd tg st ln pa rd of ar dp at_ rs fd pl tx ou wr op on dn v ((-3)) (nI 0, ou, wr) := (by have e : piC v on wr ou op = (-3) := (by unfold piC; rw [if_neg (by omega), if_pos (by omega)]); exact ⟨⟨e.symm, Or.inr ⟨by rw [e]; decide, rfl, rfl⟩⟩, rfl⟩)
              exact W.iret (v := (-3)) hx hb hr (fun t ht hW => ⟨⟨(-3), (nI 0, ou, wr), rfl, hq9, by rw [ht]; exact hP9, va_K.moved hW.alike hK, hD9⟩, hS.F ht⟩) hS.2.2 dX4_putInt_95
          · refine lv_iinc (v := (nI 2)) (lv' := [(2, .int (nI 2)), (0, .ref m0), (1, .int v)]) hx hb dX4_putInt_75 hl (k := 0) rfl (by decide) (by decide) rfl (fun ls hl => ?_)
            refine lv_goto (tgt := 45) hx hb dX4_putInt_78 (by decide) ?_
            refine lv_iload_n hx hb dX4_putInt_45 rfl (lv_at hl 0 rfl) ?_
            refine lv_iconst (v := nI 1) hx hb dX4_putInt_46 (by decide) ?_
            refine hl_icmp_le (tgt := 81) hx hb dX4_putInt_47 (by decide) (by omega) (by omega) (fun c_17 => absurd c_17 (by decide)) (fun c_17 => ?_)
            refine lv_iload_n hx hb dX4_putInt_50 rfl (lv_at hl 2 rfl) ?_
            refine lv_bipush (v := nI 32) hx hb dX4_putInt_51 (by decide) ?_
            refine lv_bipush (v := nI 8) hx hb dX4_putInt_53 (by decide) ?_
            refine lv_iload_n hx hb dX4_putInt_55 rfl (lv_at hl 0 rfl) ?_
            refine lv_iconst (v := nI 1) hx hb dX4_putInt_56 (by decide) ?_
            refine lv_isub hx hb dX4_putInt_57 ?_
            refine hl_top (show _ = nI 1 by decide) ?_
            refine lv_imul hx hb dX4_putInt_58 ?_
            refine hl_top (show _ = nI 8 by decide) ?_
            refine lv_isub hx hb dX4_putInt_59 ?_
            refine hl_top (show _ = nI 24 by decide) ?_
            refine lv_ishl hx hb dX4_putInt_60 ?_
            refine lv_bipush (v := nI 32) hx hb dX4_putInt_61 (by decide) ?_
            refine lv_bipush (v := nI 8) hx hb dX4_putInt_63 (by decide) ?_
            refine lv_iload_n hx hb dX4_putInt_65 rfl (lv_at hl 0 rfl) ?_
            refine lv_iconst (v := nI 1) hx hb dX4_putInt_66 (by decide) ?_
            refine lv_isub hx hb dX4_putInt_67 ?_
            refine hl_top (show _ = nI 1 by decide) ?_
            refine lv_imul hx hb dX4_putInt_68 ?_
            refine hl_top (show _ = nI 8 by decide) ?_
            refine lv_isub hx hb dX4_putInt_69 ?_
            refine hl_top (show _ = nI 24 by decide) ?_
            refine lv_ishr hx hb dX4_putInt_70 ?_
            refine lv_iload_n hx hb dX4_putInt_71 rfl (lv_at hl 2 rfl) ?_
            refine lv_icmp_ne (tgt := 81) hx hb dX4_putInt_72 (by decide) (fun c_18 => ?_) (fun c_18 => ?_)
            · have hsz : intSz v = 2 := intSz_2 (by assumption) (by assumption)
              refine lv_aload_n hx hb dX4_putInt_81 rfl (lv_at hl 1 rfl) ?_
              refine va_get (D := (dC, dI)) (ci := 3) (v := .int (nI wr)) (C := RX4) (T := TX4) (N := 22) hx hb hts hinX4 hown hK hP 0 rfl rfl 18 (by decide) hf_112 (fun _ h9 => h9) rfl dX4_putInt_82 ?_
              refine lv_iload_n hx hb dX4_putInt_85 rfl (lv_at hl 0 rfl) ?_
              refine hl_iadd hx hb dX4_putInt_86 ?_
              refine lv_sipush (v := nI 300) hx hb dX4_putInt_87 (by decide) ?_
              refine hl_icmp_le (tgt := 96) hx hb dX4_putInt_90 (by decide) (by omega) (by omega) (fun c_19 => ?_) (fun c_19 => ?_)
              · refine lv_iload_n hx hb dX4_putInt_96 rfl (lv_at hl 0 rfl) ?_
                refine lv_iconst (v := nI 1) hx hb dX4_putInt_97 (by decide) ?_
                refine lv_isub hx hb dX4_putInt_98 ?_
                refine hl_top (show _ = nI 1 by decide) ?_
                refine lv_istore_n (lv' := [(3, .int (nI 1)), (2, .int (nI 2)), (0, .ref m0), (1, .int v)]) hx hb dX4_putInt_99 rfl hl (by decide) rfl (fun ls hl => ?_)
                have lp_100 : ∀ (nf : Nat) (k : Nat) (ou1 : Nat → Nat) (wr1 : Nat), k < nf → (k ≤ intSz v) → (ou1 = pB ou wr (byN v) (intSz v) (intSz v - k)) → (wr1 = wr + (intSz v - k)) → ∀ (H : Heap) (locs : List Loc) (ls : Array Slot), va_P (dC, dI) vwCl (wM cA m0 m1 m2 m3 m4 m5 m6 m7 m8 m9 (nI 0) row sz1 nd tg st ln pa rd of ar dp at_ rs fd pl tx ou1 wr1 op on dn) H → va_D A (wM cA m0 m1 m2 m3 m4 m5 m6 m7 m8 m9 (nI 0) row sz1 nd tg st ln pa rd of ar dp at_ rs fd pl tx ou1 wr1 op on dn) → va_S A s.heap H locs → lv_has ls 4 [(3, .int (mI k)), (2, .int (nI 2)), (0, .ref m0), (1, .int v)] → W p l e (headSpec wsX4_putInt ({ frames := 1, cells := 0, slots := 0, locals := 20 } : Room)).room s m ([.ref m0, .int v] : List Value).toArray below meth c H locs 0 0 (MQ below (qX4_putInt dC dI cA A m0 m1 m2 m3 m4 m5 m6 m7 m8 m9 cd row sz1 nd tg st ln pa rd of ar dp at_ rs fd pl tx ou wr op on dn v) ([.ref m0, .int v] : List Value).toArray s 0 0 A) (F0 m 100 ls []) := by
                  intro nf
                  induction nf with
                  | zero =>
                    intro k ou1 wr1 hm
                    exact absurd hm (Nat.not_lt_zero _)
                  | succ nf ih_100 =>
                    intro k ou1 wr1 hm hk hou1 hwr1 H locs ls hP hD hS hl
                    cases k with
                    | zero =>
                      refine lv_iload_n hx hb dX4_putInt_100 rfl (lv_at hl 0 rfl) ?_
                      refine lv_if_lt (tgt := 139) hx hb dX4_putInt_101 (by decide) (fun c_21 => ?_) (fun c_21 => absurd (by decide) c_21)
                      refine lv_iconst (v := nI 0) hx hb dX4_putInt_139 (by decide) ?_
                      have hP9 : va_P (dC, dI) vwCl (vX4_putInt cA m0 m1 m2 m3 m4 m5 m6 m7 m8 m9 cd row sz1 nd tg st ln pa rd of ar dp at_ rs fd pl tx ou wr op on dn v (nI 0, ou1, wr1)) _ := hP
                      have hD9 : va_D A (vX4_putInt cA m0 m1 m2 m3 m4 m5 m6 m7 m8 m9 cd row sz1 nd tg st ln pa rd of ar dp at_ rs fd pl tx ou wr op on dn v (nI 0, ou1, wr1)) := hD
                      have hq9 : pX4_putInt m0 m1 m2 m3 m4 m5 m6 m7 m8 m9 cd row sz1 nd tg st ln pa rd of ar dp at_ rs fd pl tx ou wr op on dn v (nI 0) (nI 0, ou1, wr1) := (by have e : piC v on wr ou op = 0 := (by unfold piC; rw [if_neg (by omega), if_neg (by omega)]); exact ⟨⟨e.symm, Or.inl ⟨e, by omega, hou1, by omega⟩⟩, rfl⟩)
                      exact W.iret (v := nI 0) hx hb hr (fun t ht hW => ⟨⟨nI 0, (nI 0, ou1, wr1), rfl, hq9, by rw [ht]; exact hP9, va_K.moved hW.alike hK, hD9⟩, hS.F ht⟩) hS.2.2 dX4_putInt_140
                    | succ k =>
                      have hl : lv_has ls 4 [(3, .int (nI k)), (2, .int (nI 2)), (0, .ref m0), (1, .int v)] := hl
                      refine lv_iload_n hx hb dX4_putInt_100 rfl (lv_at hl 0 rfl) ?_
                      refine hl_if_lt (tgt := 139) hx hb dX4_putInt_101 (by decide) (by omega) (fun c_22 => absurd c_22 (by omega)) (fun c_22 => ?_)
                      refine lv_aload_n hx hb dX4_putInt_104 rfl (lv_at hl 2 rfl) ?_
                      refine va_get (D := (dC, dI)) (ci := 3) (v := .ref m8) (C := RX4) (T := TX4) (N := 22) hx hb hts hinX4 hown hK hP 0 rfl rfl 17 (by decide) hf_35 (fun _ h9 => h9) rfl dX4_putInt_105 ?_
                      refine lv_aload_n hx hb dX4_putInt_108 rfl (lv_at hl 2 rfl) ?_
                      refine va_get (D := (dC, dI)) (ci := 3) (v := .int (nI wr1)) (C := RX4) (T := TX4) (N := 22) hx hb hts hinX4 hown hK hP 0 rfl rfl 18 (by decide) hf_112 (fun _ h9 => h9) rfl dX4_putInt_109 ?_
                      refine lv_iload_n hx hb dX4_putInt_112 rfl (lv_at hl 3 rfl) ?_
                      refine lv_bipush (v := nI 8) hx hb dX4_putInt_113 (by decide) ?_
                      refine lv_iload_n hx hb dX4_putInt_115 rfl (lv_at hl 0 rfl) ?_
                      refine hl_imul hx hb dX4_putInt_116 ?_
                      refine lv_ishr hx hb dX4_putInt_117 ?_
                      refine lv_sipush (v := nI 255) hx hb dX4_putInt_118 (by decide) ?_
                      refine lv_iand hx hb dX4_putInt_121 ?_
                      refine hl_top (byN_eq v k) ?_
                      refine hl_iast hx hb hK hP hD hS 8 0 rfl rfl (by omega) (by decide) dX4_putInt_122 (fun H locs hP hD hS => ?_)
                      have hP : va_P (dC, dI) vwCl (wM cA m0 m1 m2 m3 m4 m5 m6 m7 m8 m9 (nI 0) row sz1 nd tg st ln pa rd of ar dp at_ rs fd pl tx (va_up ou1 wr1 (byN v k)) wr1 op on dn) H := hP
                      have hD : va_D A (wM cA m0 m1 m2 m3 m4 m5 m6 m7 m8 m9 (nI 0) row sz1 nd tg st ln pa rd of ar dp at_ rs fd pl tx (va_up ou1 wr1 (byN v k)) wr1 op on dn) := hD
                      refine lv_aload_n hx hb dX4_putInt_123 rfl (lv_at hl 2 rfl) ?_
                      refine lv_dup hx hb dX4_putInt_124 rfl ?_
                      refine va_get (D := (dC, dI)) (ci := 3) (v := .int (nI wr1)) (C := RX4) (T := TX4) (N := 22) hx hb hts hinX4 hown hK hP 0 rfl rfl 18 (by decide) hf_112 (fun _ h9 => h9) rfl dX4_putInt_125 ?_
                      refine lv_iconst (v := nI 1) hx hb dX4_putInt_128 (by decide) ?_
                      refine hl_iadd hx hb dX4_putInt_129 ?_
                      refine va_put (D := (dC, dI)) (ci := 3) (v := .int (nI (wr1 + 1))) (ty := .int) (C := RX4) (T := TX4) (N := 22) hx hb hts hinX4 tyX4 tyX4_ok nmX4 hown hK hP hD hS 0 rfl rfl 18 (by decide) hf_112 (fun _ h9 => h9) rfl (by decide +kernel) rfl rfl (Nat.le_of_ble_eq_true rfl) dX4_putInt_130 (fun H locs hP hD hS => ?_)
                      have hP : va_P (dC, dI) vwCl (wM cA m0 m1 m2 m3 m4 m5 m6 m7 m8 m9 (nI 0) row sz1 nd tg st ln pa rd of ar dp at_ rs fd pl tx (va_up ou1 wr1 (byN v k)) (wr1 + 1) op on dn) H := hP
                      have hD : va_D A (wM cA m0 m1 m2 m3 m4 m5 m6 m7 m8 m9 (nI 0) row sz1 nd tg st ln pa rd of ar dp at_ rs fd pl tx (va_up ou1 wr1 (byN v k)) (wr1 + 1) op on dn) := hD
                      refine lv_iinc (v := (mI k)) (lv' := [(3, .int (mI k)), (2, .int (nI 2)), (0, .ref m0), (1, .int v)]) hx hb dX4_putInt_133 hl (k := 0) rfl (mI_dec k) (by decide) rfl (fun ls hl => ?_)
                      refine lv_goto (tgt := 100) hx hb dX4_putInt_136 (by decide) ?_
                      exact ih_100 k (va_up ou1 wr1 (byN v k)) (wr1 + 1) (by omega) (by omega) (by rw [hou1, hwr1]; exact pB_step _ _ _ hk) (by omega) _ _ _ hP hD hS (lv_sub hl [0, 1, 2, 3] rfl)
                exact lp_100 ((1 + 1) + 1) (1 + 1) ou wr (Nat.lt_succ_self _) (by omega) (by rw [Nat.sub_eq_zero_of_le (by omega)]; rfl) (by omega) _ _ _ hP hD hS (lv_sub hl [0, 1, 2, 3] rfl)
              · refine lv_bipush (v := (-3)) hx hb dX4_putInt_93 (by decide) ?_
                have hP9 : va_P (dC, dI) vwCl (vX4_putInt cA m0 m1 m2 m3 m4 m5 m6 m7 m8 m9 cd row sz1 nd tg st ln pa rd of ar dp at_ rs fd pl tx ou wr op on dn v (nI 0, ou, wr)) _ := hP
                have hD9 : va_D A (vX4_putInt cA m0 m1 m2 m3 m4 m5 m6 m7 m8 m9 cd row sz1 nd tg st ln pa rd of ar dp at_ rs fd pl tx ou wr op on dn v (nI 0, ou, wr)) := hD
                have hq9 : pX4_putInt m0 m1 m2 m3 m4 m5 m6 m7 m8 m9 cd row sz1 nd tg st ln pa rd of ar dp at_ rs fd pl tx ou wr op on dn v ((-3)) (nI 0, ou, wr) := (by have e : piC v on wr ou op = (-3) := (by unfold piC; rw [if_neg (by omega), if_pos (by omega)]); exact ⟨⟨e.symm, Or.inr ⟨by rw [e]; decide, rfl, rfl⟩⟩, rfl⟩)
                exact W.iret (v := (-3)) hx hb hr (fun t ht hW => ⟨⟨(-3), (nI 0, ou, wr), rfl, hq9, by rw [ht]; exact hP9, va_K.moved hW.alike hK, hD9⟩, hS.F ht⟩) hS.2.2 dX4_putInt_95
            · refine lv_iinc (v := (nI 1)) (lv' := [(2, .int (nI 1)), (0, .ref m0), (1, .int v)]) hx hb dX4_putInt_75 hl (k := 0) rfl (by decide) (by decide) rfl (fun ls hl => ?_)
              refine lv_goto (tgt := 45) hx hb dX4_putInt_78 (by decide) ?_
              refine lv_iload_n hx hb dX4_putInt_45 rfl (lv_at hl 0 rfl) ?_
              refine lv_iconst (v := nI 1) hx hb dX4_putInt_46 (by decide) ?_
              refine hl_icmp_le (tgt := 81) hx hb dX4_putInt_47 (by decide) (by omega) (by omega) (fun c_23 => ?_) (fun c_23 => absurd c_23 (by decide))
              have hsz : intSz v = 1 := intSz_1 (by assumption)
              refine lv_aload_n hx hb dX4_putInt_81 rfl (lv_at hl 1 rfl) ?_
              refine va_get (D := (dC, dI)) (ci := 3) (v := .int (nI wr)) (C := RX4) (T := TX4) (N := 22) hx hb hts hinX4 hown hK hP 0 rfl rfl 18 (by decide) hf_112 (fun _ h9 => h9) rfl dX4_putInt_82 ?_
              refine lv_iload_n hx hb dX4_putInt_85 rfl (lv_at hl 0 rfl) ?_
              refine hl_iadd hx hb dX4_putInt_86 ?_
              refine lv_sipush (v := nI 300) hx hb dX4_putInt_87 (by decide) ?_
              refine hl_icmp_le (tgt := 96) hx hb dX4_putInt_90 (by decide) (by omega) (by omega) (fun c_24 => ?_) (fun c_24 => ?_)
              · refine lv_iload_n hx hb dX4_putInt_96 rfl (lv_at hl 0 rfl) ?_
                refine lv_iconst (v := nI 1) hx hb dX4_putInt_97 (by decide) ?_
                refine lv_isub hx hb dX4_putInt_98 ?_
                refine hl_top (show _ = nI 0 by decide) ?_
                refine lv_istore_n (lv' := [(3, .int (nI 0)), (2, .int (nI 1)), (0, .ref m0), (1, .int v)]) hx hb dX4_putInt_99 rfl hl (by decide) rfl (fun ls hl => ?_)
                have lp_100 : ∀ (nf : Nat) (k : Nat) (ou1 : Nat → Nat) (wr1 : Nat), k < nf → (k ≤ intSz v) → (ou1 = pB ou wr (byN v) (intSz v) (intSz v - k)) → (wr1 = wr + (intSz v - k)) → ∀ (H : Heap) (locs : List Loc) (ls : Array Slot), va_P (dC, dI) vwCl (wM cA m0 m1 m2 m3 m4 m5 m6 m7 m8 m9 (nI 0) row sz1 nd tg st ln pa rd of ar dp at_ rs fd pl tx ou1 wr1 op on dn) H → va_D A (wM cA m0 m1 m2 m3 m4 m5 m6 m7 m8 m9 (nI 0) row sz1 nd tg st ln pa rd of ar dp at_ rs fd pl tx ou1 wr1 op on dn) → va_S A s.heap H locs → lv_has ls 4 [(3, .int (mI k)), (2, .int (nI 1)), (0, .ref m0), (1, .int v)] → W p l e (headSpec wsX4_putInt ({ frames := 1, cells := 0, slots := 0, locals := 20 } : Room)).room s m ([.ref m0, .int v] : List Value).toArray below meth c H locs 0 0 (MQ below (qX4_putInt dC dI cA A m0 m1 m2 m3 m4 m5 m6 m7 m8 m9 cd row sz1 nd tg st ln pa rd of ar dp at_ rs fd pl tx ou wr op on dn v) ([.ref m0, .int v] : List Value).toArray s 0 0 A) (F0 m 100 ls []) := by
                  intro nf
                  induction nf with
                  | zero =>
                    intro k ou1 wr1 hm
                    exact absurd hm (Nat.not_lt_zero _)
                  | succ nf ih_100 =>
                    intro k ou1 wr1 hm hk hou1 hwr1 H locs ls hP hD hS hl
                    cases k with
                    | zero =>
                      refine lv_iload_n hx hb dX4_putInt_100 rfl (lv_at hl 0 rfl) ?_
                      refine lv_if_lt (tgt := 139) hx hb dX4_putInt_101 (by decide) (fun c_26 => ?_) (fun c_26 => absurd (by decide) c_26)
                      refine lv_iconst (v := nI 0) hx hb dX4_putInt_139 (by decide) ?_
                      have hP9 : va_P (dC, dI) vwCl (vX4_putInt cA m0 m1 m2 m3 m4 m5 m6 m7 m8 m9 cd row sz1 nd tg st ln pa rd of ar dp at_ rs fd pl tx ou wr op on dn v (nI 0, ou1, wr1)) _ := hP
                      have hD9 : va_D A (vX4_putInt cA m0 m1 m2 m3 m4 m5 m6 m7 m8 m9 cd row sz1 nd tg st ln pa rd of ar dp at_ rs fd pl tx ou wr op on dn v (nI 0, ou1, wr1)) := hD
                      have hq9 : pX4_putInt m0 m1 m2 m3 m4 m5 m6 m7 m8 m9 cd row sz1 nd tg st ln pa rd of ar dp at_ rs fd pl tx ou wr op on dn v (nI 0) (nI 0, ou1, wr1) := (by have e : piC v on wr ou op = 0 := (by unfold piC; rw [if_neg (by omega), if_neg (by omega)]); exact ⟨⟨e.symm, Or.inl ⟨e, by omega, hou1, by omega⟩⟩, rfl⟩)
                      exact W.iret (v := nI 0) hx hb hr (fun t ht hW => ⟨⟨nI 0, (nI 0, ou1, wr1), rfl, hq9, by rw [ht]; exact hP9, va_K.moved hW.alike hK, hD9⟩, hS.F ht⟩) hS.2.2 dX4_putInt_140
                    | succ k =>
                      have hl : lv_has ls 4 [(3, .int (nI k)), (2, .int (nI 1)), (0, .ref m0), (1, .int v)] := hl
                      refine lv_iload_n hx hb dX4_putInt_100 rfl (lv_at hl 0 rfl) ?_
                      refine hl_if_lt (tgt := 139) hx hb dX4_putInt_101 (by decide) (by omega) (fun c_27 => absurd c_27 (by omega)) (fun c_27 => ?_)
                      refine lv_aload_n hx hb dX4_putInt_104 rfl (lv_at hl 2 rfl) ?_
                      refine va_get (D := (dC, dI)) (ci := 3) (v := .ref m8) (C := RX4) (T := TX4) (N := 22) hx hb hts hinX4 hown hK hP 0 rfl rfl 17 (by decide) hf_35 (fun _ h9 => h9) rfl dX4_putInt_105 ?_
                      refine lv_aload_n hx hb dX4_putInt_108 rfl (lv_at hl 2 rfl) ?_
                      refine va_get (D := (dC, dI)) (ci := 3) (v := .int (nI wr1)) (C := RX4) (T := TX4) (N := 22) hx hb hts hinX4 hown hK hP 0 rfl rfl 18 (by decide) hf_112 (fun _ h9 => h9) rfl dX4_putInt_109 ?_
                      refine lv_iload_n hx hb dX4_putInt_112 rfl (lv_at hl 3 rfl) ?_
                      refine lv_bipush (v := nI 8) hx hb dX4_putInt_113 (by decide) ?_
                      refine lv_iload_n hx hb dX4_putInt_115 rfl (lv_at hl 0 rfl) ?_
                      refine hl_imul hx hb dX4_putInt_116 ?_
                      refine lv_ishr hx hb dX4_putInt_117 ?_
                      refine lv_sipush (v := nI 255) hx hb dX4_putInt_118 (by decide) ?_
                      refine lv_iand hx hb dX4_putInt_121 ?_
                      refine hl_top (byN_eq v k) ?_
                      refine hl_iast hx hb hK hP hD hS 8 0 rfl rfl (by omega) (by decide) dX4_putInt_122 (fun H locs hP hD hS => ?_)
                      have hP : va_P (dC, dI) vwCl (wM cA m0 m1 m2 m3 m4 m5 m6 m7 m8 m9 (nI 0) row sz1 nd tg st ln pa rd of ar dp at_ rs fd pl tx (va_up ou1 wr1 (byN v k)) wr1 op on dn) H := hP
                      have hD : va_D A (wM cA m0 m1 m2 m3 m4 m5 m6 m7 m8 m9 (nI 0) row sz1 nd tg st ln pa rd of ar dp at_ rs fd pl tx (va_up ou1 wr1 (byN v k)) wr1 op on dn) := hD
                      refine lv_aload_n hx hb dX4_putInt_123 rfl (lv_at hl 2 rfl) ?_
                      refine lv_dup hx hb dX4_putInt_124 rfl ?_
                      refine va_get (D := (dC, dI)) (ci := 3) (v := .int (nI wr1)) (C := RX4) (T := TX4) (N := 22) hx hb hts hinX4 hown hK hP 0 rfl rfl 18 (by decide) hf_112 (fun _ h9 => h9) rfl dX4_putInt_125 ?_
                      refine lv_iconst (v := nI 1) hx hb dX4_putInt_128 (by decide) ?_
                      refine hl_iadd hx hb dX4_putInt_129 ?_
                      refine va_put (D := (dC, dI)) (ci := 3) (v := .int (nI (wr1 + 1))) (ty := .int) (C := RX4) (T := TX4) (N := 22) hx hb hts hinX4 tyX4 tyX4_ok nmX4 hown hK hP hD hS 0 rfl rfl 18 (by decide) hf_112 (fun _ h9 => h9) rfl (by decide +kernel) rfl rfl (Nat.le_of_ble_eq_true rfl) dX4_putInt_130 (fun H locs hP hD hS => ?_)
                      have hP : va_P (dC, dI) vwCl (wM cA m0 m1 m2 m3 m4 m5 m6 m7 m8 m9 (nI 0) row sz1 nd tg st ln pa rd of ar dp at_ rs fd pl tx (va_up ou1 wr1 (byN v k)) (wr1 + 1) op on dn) H := hP
                      have hD : va_D A (wM cA m0 m1 m2 m3 m4 m5 m6 m7 m8 m9 (nI 0) row sz1 nd tg st ln pa rd of ar dp at_ rs fd pl tx (va_up ou1 wr1 (byN v k)) (wr1 + 1) op on dn) := hD
                      refine lv_iinc (v := (mI k)) (lv' := [(3, .int (mI k)), (2, .int (nI 1)), (0, .ref m0), (1, .int v)]) hx hb dX4_putInt_133 hl (k := 0) rfl (mI_dec k) (by decide) rfl (fun ls hl => ?_)
                      refine lv_goto (tgt := 100) hx hb dX4_putInt_136 (by decide) ?_
                      exact ih_100 k (va_up ou1 wr1 (byN v k)) (wr1 + 1) (by omega) (by omega) (by rw [hou1, hwr1]; exact pB_step _ _ _ hk) (by omega) _ _ _ hP hD hS (lv_sub hl [0, 1, 2, 3] rfl)
                exact lp_100 ((0 + 1) + 1) (0 + 1) ou wr (Nat.lt_succ_self _) (by omega) (by rw [Nat.sub_eq_zero_of_le (by omega)]; rfl) (by omega) _ _ _ hP hD hS (lv_sub hl [0, 1, 2, 3] rfl)
              · refine lv_bipush (v := (-3)) hx hb dX4_putInt_93 (by decide) ?_
                have hP9 : va_P (dC, dI) vwCl (vX4_putInt cA m0 m1 m2 m3 m4 m5 m6 m7 m8 m9 cd row sz1 nd tg st ln pa rd of ar dp at_ rs fd pl tx ou wr op on dn v (nI 0, ou, wr)) _ := hP
                have hD9 : va_D A (vX4_putInt cA m0 m1 m2 m3 m4 m5 m6 m7 m8 m9 cd row sz1 nd tg st ln pa rd of ar dp at_ rs fd pl tx ou wr op on dn v (nI 0, ou, wr)) := hD
                have hq9 : pX4_putInt m0 m1 m2 m3 m4 m5 m6 m7 m8 m9 cd row sz1 nd tg st ln pa rd of ar dp at_ rs fd pl tx ou wr op on dn v ((-3)) (nI 0, ou, wr) := (by have e : piC v on wr ou op = (-3) := (by unfold piC; rw [if_neg (by omega), if_pos (by omega)]); exact ⟨⟨e.symm, Or.inr ⟨by rw [e]; decide, rfl, rfl⟩⟩, rfl⟩)
                exact W.iret (v := (-3)) hx hb hr (fun t ht hW => ⟨⟨(-3), (nI 0, ou, wr), rfl, hq9, by rw [ht]; exact hP9, va_K.moved hW.alike hK, hD9⟩, hS.F ht⟩) hS.2.2 dX4_putInt_95
      · refine lv_bipush (v := (-2)) hx hb dX4_putInt_40 (by decide) ?_
        have hP9 : va_P (dC, dI) vwCl (vX4_putInt cA m0 m1 m2 m3 m4 m5 m6 m7 m8 m9 cd row sz1 nd tg st ln pa rd of ar dp at_ rs fd pl tx ou wr op on dn v (nI 0, ou, wr)) _ := hP
        have hD9 : va_D A (vX4_putInt cA m0 m1 m2 m3 m4 m5 m6 m7 m8 m9 cd row sz1 nd tg st ln pa rd of ar dp at_ rs fd pl tx ou wr op on dn v (nI 0, ou, wr)) := hD
        have hq9 : pX4_putInt m0 m1 m2 m3 m4 m5 m6 m7 m8 m9 cd row sz1 nd tg st ln pa rd of ar dp at_ rs fd pl tx ou wr op on dn v ((-2)) (nI 0, ou, wr) := (by have e : piC v on wr ou op = (-2) := (by unfold piC; rw [if_pos (by omega)]); exact ⟨⟨e.symm, Or.inr ⟨by rw [e]; decide, rfl, rfl⟩⟩, rfl⟩)
        exact W.iret (v := (-2)) hx hb hr (fun t ht hW => ⟨⟨(-2), (nI 0, ou, wr), rfl, hq9, by rw [ht]; exact hP9, va_K.moved hW.alike hK, hD9⟩, hS.F ht⟩) hS.2.2 dX4_putInt_42
abbrev pX4_putPart (m0 : Nat) (m1 : Nat) (m2 : Nat) (m3 : Nat) (m4 : Nat) (m5 : Nat) (m6 : Nat) (m7 : Nat) (m8 : Nat) (m9 : Nat) (cd : Int32) (row : Nat → Nat) (sz1 : Nat) (nd : Nat) (tg : Nat → Nat) (st : Nat → Nat) (ln : Nat → Nat) (pa : Nat → Int32) (rd : Nat) (of : Int32) (ar : Nat → Nat) (dp : Nat) (at_ : Nat) (rs : Int32) (fd : Nat) (pl : Int32) (tx : Nat → Nat) (ou : Nat → Nat) (wr : Nat) (op : Nat → Nat) (on : Nat) (dn : Nat) (v : Int32) : Int32 → Int32 × (Nat → Nat) × Nat → Prop := fun (r : Int32) (u : Int32 × (Nat → Nat) × Nat) => match u with | (cd2, ou2, wr2) => (r = ppC v on wr ou op ∧ ((ppC v on wr ou op = 0 ∧ wr + partSz v ≤ 300 ∧ ou2 = pB ou wr (bpN v) (partSz v) (partSz v) ∧ wr2 = wr + partSz v) ∨ (ppC v on wr ou op ≠ 0 ∧ ou2 = ou ∧ wr2 = wr))) ∧ cd2 = nI 0
abbrev vX4_putPart (cA : ClassId) (m0 : Nat) (m1 : Nat) (m2 : Nat) (m3 : Nat) (m4 : Nat) (m5 : Nat) (m6 : Nat) (m7 : Nat) (m8 : Nat) (m9 : Nat) (cd : Int32) (row : Nat → Nat) (sz1 : Nat) (nd : Nat) (tg : Nat → Nat) (st : Nat → Nat) (ln : Nat → Nat) (pa : Nat → Int32) (rd : Nat) (of : Int32) (ar : Nat → Nat) (dp : Nat) (at_ : Nat) (rs : Int32) (fd : Nat) (pl : Int32) (tx : Nat → Nat) (ou : Nat → Nat) (wr : Nat) (op : Nat → Nat) (on : Nat) (dn : Nat) (v : Int32) : Int32 × (Nat → Nat) × Nat → va_W := fun (u : Int32 × (Nat → Nat) × Nat) => match u with | (cd2, ou2, wr2) => wM cA m0 m1 m2 m3 m4 m5 m6 m7 m8 m9 cd2 row sz1 nd tg st ln pa rd of ar dp at_ rs fd pl tx ou2 wr2 op on dn
abbrev qX4_putPart (dC : Nat → ClassId) (dI : Nat → Nat → Nat) (cA : ClassId) (A : Nat → Prop) (m0 : Nat) (m1 : Nat) (m2 : Nat) (m3 : Nat) (m4 : Nat) (m5 : Nat) (m6 : Nat) (m7 : Nat) (m8 : Nat) (m9 : Nat) (cd : Int32) (row : Nat → Nat) (sz1 : Nat) (nd : Nat) (tg : Nat → Nat) (st : Nat → Nat) (ln : Nat → Nat) (pa : Nat → Int32) (rd : Nat) (of : Int32) (ar : Nat → Nat) (dp : Nat) (at_ : Nat) (rs : Int32) (fd : Nat) (pl : Int32) (tx : Nat → Nat) (ou : Nat → Nat) (wr : Nat) (op : Nat → Nat) (on : Nat) (dn : Nat) (v : Int32) : Array Value → State → Outcome → State → Prop := va_Qi (pX4_putPart m0 m1 m2 m3 m4 m5 m6 m7 m8 m9 cd row sz1 nd tg st ln pa rd of ar dp at_ rs fd pl tx ou wr op on dn v) (fun u => cAft dC dI cA A (vX4_putPart cA m0 m1 m2 m3 m4 m5 m6 m7 m8 m9 cd row sz1 nd tg st ln pa rd of ar dp at_ rs fd pl tx ou wr op on dn v u)) A
set_option maxHeartbeats 4000000 in
set_option maxRecDepth 100000 in
theorem k_X4_putPart (l : Launch) (dC : Nat → ClassId) (dI : Nat → Nat → Nat) (cA : ClassId) (m0 : Nat) (m1 : Nat) (m2 : Nat) (m3 : Nat) (m4 : Nat) (m5 : Nat) (m6 : Nat) (m7 : Nat) (m8 : Nat) (m9 : Nat) (cd : Int32) (row : Nat → Nat) (sz1 : Nat) (nd : Nat) (tg : Nat → Nat) (st : Nat → Nat) (ln : Nat → Nat) (pa : Nat → Int32) (rd : Nat) (of : Int32) (ar : Nat → Nat) (dp : Nat) (at_ : Nat) (rs : Int32) (fd : Nat) (pl : Int32) (tx : Nat → Nat) (ou : Nat → Nat) (wr : Nat) (op : Nat → Nat) (on : Nat) (dn : Nat) (v : Int32) (sz : Nat) (hou : ∀ j, ou j < 256) (hwr : wr ≤ 300) (hon : on ≤ 16) (hop : ∀ j, j < on → op j < wr) : Met l yX4_putPart wsX4_putPart ({ frames := 1, cells := 0, slots := 0, locals := 20 } : Room) (va_Pc [.ref m0, .int v] (cPre dC dI cA (wM cA m0 m1 m2 m3 m4 m5 m6 m7 m8 m9 cd row sz1 nd tg st ln pa rd of ar dp at_ rs fd pl tx ou wr op on dn) sz)) (qX4_putPart dC dI cA (va_A (wM cA m0 m1 m2 m3 m4 m5 m6 m7 m8 m9 cd row sz1 nd tg st ln pa rd of ar dp at_ rs fd pl tx ou wr op on dn) sz) m0 m1 m2 m3 m4 m5 m6 m7 m8 m9 cd row sz1 nd tg st ln pa rd of ar dp at_ rs fd pl tx ou wr op on dn v) 0 0 (va_A (wM cA m0 m1 m2 m3 m4 m5 m6 m7 m8 m9 cd row sz1 nd tg st ln pa rd of ar dp at_ rs fd pl tx ou wr op on dn) sz) := by
  refine Met.ofW (cc := cX4_putPart) (maxL := 4) (ret := (some .int)) (by decide) rfl ?_
  intro p e s m args below meth c s₁ B hml hv
  obtain ⟨rfl, hsz, hP, hK, hD0⟩ := hv
  have hx := B.exec
  have hb := B.bytes
  have hr := B.returns
  have hts := atoms_spec (ws := wsX4_putPart) B.pre
  have hown : s.vm.findClass RX4 = some m.cls := findClass_of_methodNamed B.named
  have hlocks := B.notSynchronized
  subst hsz
  have hD := hD0.self (sz := s.heap.size)
  generalize hAe : va_A (wM cA m0 m1 m2 m3 m4 m5 m6 m7 m8 m9 cd row sz1 nd tg st ln pa rd of ar dp at_ rs fd pl tx ou wr op on dn) s.heap.size = A at hD ⊢
  have hA : ∀ q : Nat, s.heap.size ≤ q → A q := fun q h => by rw [← hAe]; exact Or.inr h
  have hS : va_S A s.heap s.heap [] := va_S.rf
  have hl := lv_entry ([.ref m0, .int v]) (n := 4) (Nat.le_of_ble_eq_true rfl)
  rw [lg_entry_eq]
  generalize (lg_sl ([.ref m0, .int v]) ++ List.replicate (4 - (lg_sl ([.ref m0, .int v])).length) Slot.unset).toArray = ls at hl ⊢
  have hl : lv_has ls 4 [(0, .ref m0), (1, .int v)] := hl
  have hinX4 : ∀ w ∈ wsX40, w ∈ wsX4_putPart := fun _ h => List.mem_cons_of_mem _ (List.mem_append_right _ h)
  have hf_35 := hts (.fieldLink RX4 35 "DerDeskModel" "output" "[I") (by decide +kernel)
  have hf_41 := hts (.fieldLink RX4 41 "DerDeskModel" "code" "I") (by decide +kernel)
  have hf_112 := hts (.fieldLink RX4 112 "DerDeskModel" "written" "I") (by decide +kernel)
  have hf_115 := hts (.fieldLink RX4 115 "DerDeskModel" "open" "I") (by decide +kernel)
  have hP : va_P (dC, dI) vwCl (wM cA m0 m1 m2 m3 m4 m5 m6 m7 m8 m9 cd row sz1 nd tg st ln pa rd of ar dp at_ rs fd pl tx ou wr op on dn) s.heap := hP
  refine lv_aload_n hx hb dX4_putPart_0 rfl (lv_at hl 0 rfl) ?_
  refine lv_iconst (v := nI 0) hx hb dX4_putPart_1 (by decide) ?_
  refine va_put (D := (dC, dI)) (ci := 3) (v := .int (nI 0)) (ty := .int) (C := RX4) (T := TX4) (N := 22) hx hb hts hinX4 tyX4 tyX4_ok nmX4 hown hK hP hD hS 0 rfl rfl 0 (by decide) hf_41 (fun _ h9 => h9) rfl (by decide +kernel) rfl rfl (Nat.le_of_ble_eq_true rfl) dX4_putPart_2 (fun H locs hP hD hS => ?_)
  have hP : va_P (dC, dI) vwCl (wM cA m0 m1 m2 m3 m4 m5 m6 m7 m8 m9 (nI 0) row sz1 nd tg st ln pa rd of ar dp at_ rs fd pl tx ou wr op on dn) H := hP
  have hD : va_D A (wM cA m0 m1 m2 m3 m4 m5 m6 m7 m8 m9 (nI 0) row sz1 nd tg st ln pa rd of ar dp at_ rs fd pl tx ou wr op on dn) := hD
  refine lv_iload_n hx hb dX4_putPart_5 rfl (lv_at hl 1 rfl) ?_
  refine lv_if_ge (tgt := 11) hx hb dX4_putPart_6 (by decide) (fun c_1 => ?_) (fun c_1 => ?_)
  · have hv0 : ¬ v < 0 := Int32.not_lt.mpr (by assumption)
    refine lv_aload_n hx hb dX4_putPart_11 rfl (lv_at hl 0 rfl) ?_
    refine va_get (D := (dC, dI)) (ci := 3) (v := .int (nI on)) (C := RX4) (T := TX4) (N := 22) hx hb hts hinX4 hown hK hP 0 rfl rfl 20 (by decide) hf_115 (fun _ h9 => h9) rfl dX4_putPart_12 ?_
    refine hl_if_eq (tgt := 27) hx hb dX4_putPart_15 (by decide) (by omega) (fun c_2 => ?_) (fun c_2 => ?_)
    · refine lv_bipush (v := (-2)) hx hb dX4_putPart_27 (by decide) ?_
      have hP9 : va_P (dC, dI) vwCl (vX4_putPart cA m0 m1 m2 m3 m4 m5 m6 m7 m8 m9 cd row sz1 nd tg st ln pa rd of ar dp at_ rs fd pl tx ou wr op on dn v (nI 0, ou, wr)) _ := hP
      have hD9 : va_D A (vX4_putPart cA m0 m1 m2 m3 m4 m5 m6 m7 m8 m9 cd row sz1 nd tg st ln pa rd of ar dp at_ rs fd pl tx ou wr op on dn v (nI 0, ou, wr)) := hD
      have hq9 : pX4_putPart m0 m1 m2 m3 m4 m5 m6 m7 m8 m9 cd row sz1 nd tg st ln pa rd of ar dp at_ rs fd pl tx ou wr op on dn v ((-2)) (nI 0, ou, wr) := (by have e : ppC v on wr ou op = (-2) := (by unfold ppC; rw [if_neg hv0, if_pos (by omega)]); exact ⟨⟨e.symm, Or.inr ⟨by rw [e]; decide, rfl, rfl⟩⟩, rfl⟩)
      exact W.iret (v := (-2)) hx hb hr (fun t ht hW => ⟨⟨(-2), (nI 0, ou, wr), rfl, hq9, by rw [ht]; exact hP9, va_K.moved hW.alike hK, hD9⟩, hS.F ht⟩) hS.2.2 dX4_putPart_29
    · refine lv_aload_n hx hb dX4_putPart_18 rfl (lv_at hl 0 rfl) ?_
      refine cl_Vi (As := []) (rest := []) (wr := []) ⟨hx, hb, hml, hown, hts⟩ (k_X4_openTag l dC dI cA m0 m1 m2 m3 m4 m5 m6 m7 m8 m9 (nI 0) row sz1 nd tg st ln pa rd of ar dp at_ rs fd pl tx ou wr op on dn _ hou hwr hon hop) (cwV 0 hts gX4_putPart_X4_openTag rfl rfl rfl (by decide +kernel) ⟨Nat.le_of_ble_eq_true rfl, Nat.le_of_ble_eq_true rfl⟩) hK hP hD hS hA [0, 1, 2, 3, 4, 5, 6, 7, 8, 9] [] rfl rfl (by decide) (by decide) (by decide) (ci := 3) (q0 := 0) rfl rfl rfl rfl hl.1 rfl (Nat.le_of_ble_eq_true rfl) dX4_putPart_19 ⟨Nat.le_of_ble_eq_true rfl, Nat.le_of_ble_eq_true rfl⟩ (fun r_3 u_3 H locs hw_3 hP hD hS => ?_)
      have hP : va_P (dC, dI) vwCl (wM cA m0 m1 m2 m3 m4 m5 m6 m7 m8 m9 (nI 0) row sz1 nd tg st ln pa rd of ar dp at_ rs fd pl tx ou wr op on dn) H := hP
      have hD : va_D A (wM cA m0 m1 m2 m3 m4 m5 m6 m7 m8 m9 (nI 0) row sz1 nd tg st ln pa rd of ar dp at_ rs fd pl tx ou wr op on dn) := hD
      have hw_3 : (on = 0 ∧ r_3 = -1) ∨ (0 < on ∧ r_3 = nI (ou (op (on - 1)))) := hw_3
      have hw_3 := ((hw_3.resolve_left (fun h => absurd h.1 (by omega))).2).symm
      subst hw_3
      have hv_3 := hou (op (on - 1))
      refine lv_bipush (v := nI 6) hx hb dX4_putPart_22 (by decide) ?_
      refine hl_icmp_eq (tgt := 30) hx hb dX4_putPart_24 (by decide) (by omega) (by omega) (fun c_4 => ?_) (fun c_4 => ?_)
      · refine lv_iconst (v := nI 1) hx hb dX4_putPart_30 (by decide) ?_
        refine lv_istore_n (lv' := [(2, .int (nI 1)), (0, .ref m0), (1, .int v)]) hx hb dX4_putPart_31 rfl hl (by decide) rfl (fun ls hl => ?_)
        refine lv_iload_n hx hb dX4_putPart_32 rfl (lv_at hl 0 rfl) ?_
        refine lv_iconst (v := nI 5) hx hb dX4_putPart_33 (by decide) ?_
        refine hl_icmp_ge (tgt := 52) hx hb dX4_putPart_34 (by decide) (by omega) (by omega) (fun c_5 => absurd c_5 (by decide)) (fun c_5 => ?_)
        refine lv_iload_n hx hb dX4_putPart_37 rfl (lv_at hl 2 rfl) ?_
        refine lv_bipush (v := nI 7) hx hb dX4_putPart_38 (by decide) ?_
        refine lv_iload_n hx hb dX4_putPart_40 rfl (lv_at hl 0 rfl) ?_
        refine lv_imul hx hb dX4_putPart_41 ?_
        refine hl_top (show _ = nI 7 by decide) ?_
        refine lv_ishr hx hb dX4_putPart_42 ?_
        refine lv_if_le (tgt := 52) hx hb dX4_putPart_43 (by decide) (fun c_6 => ?_) (fun c_6 => ?_)
        · have c_6 := (shr0 rfl hv0).mp c_6
          have hsz : partSz v = 1 := by unfold partSz; simp only [*, if_true, if_false]
          refine lv_aload_n hx hb dX4_putPart_52 rfl (lv_at hl 1 rfl) ?_
          refine va_get (D := (dC, dI)) (ci := 3) (v := .int (nI wr)) (C := RX4) (T := TX4) (N := 22) hx hb hts hinX4 hown hK hP 0 rfl rfl 18 (by decide) hf_112 (fun _ h9 => h9) rfl dX4_putPart_53 ?_
          refine lv_iload_n hx hb dX4_putPart_56 rfl (lv_at hl 0 rfl) ?_
          refine hl_iadd hx hb dX4_putPart_57 ?_
          refine lv_sipush (v := nI 300) hx hb dX4_putPart_58 (by decide) ?_
          refine hl_icmp_le (tgt := 67) hx hb dX4_putPart_61 (by decide) (by omega) (by omega) (fun c_7 => ?_) (fun c_7 => ?_)
          · refine lv_iload_n hx hb dX4_putPart_67 rfl (lv_at hl 0 rfl) ?_
            refine lv_iconst (v := nI 1) hx hb dX4_putPart_68 (by decide) ?_
            refine lv_isub hx hb dX4_putPart_69 ?_
            refine hl_top (show _ = nI 0 by decide) ?_
            refine lv_istore_n (lv' := [(3, .int (nI 0)), (2, .int (nI 1)), (0, .ref m0), (1, .int v)]) hx hb dX4_putPart_70 rfl hl (by decide) rfl (fun ls hl => ?_)
            have lp_71 : ∀ (nf : Nat) (k : Nat) (ou1 : Nat → Nat) (wr1 : Nat), k < nf → (k ≤ partSz v) → (ou1 = pB ou wr (bpN v) (partSz v) (partSz v - k)) → (wr1 = wr + (partSz v - k)) → ∀ (H : Heap) (locs : List Loc) (ls : Array Slot), va_P (dC, dI) vwCl (wM cA m0 m1 m2 m3 m4 m5 m6 m7 m8 m9 (nI 0) row sz1 nd tg st ln pa rd of ar dp at_ rs fd pl tx ou1 wr1 op on dn) H → va_D A (wM cA m0 m1 m2 m3 m4 m5 m6 m7 m8 m9 (nI 0) row sz1 nd tg st ln pa rd of ar dp at_ rs fd pl tx ou1 wr1 op on dn) → va_S A s.heap H locs → lv_has ls 4 [(3, .int (mI k)), (2, .int (nI 1)), (0, .ref m0), (1, .int v)] → W p l e (headSpec wsX4_putPart ({ frames := 1, cells := 0, slots := 0, locals := 20 } : Room)).room s m ([.ref m0, .int v] : List Value).toArray below meth c H locs 0 0 (MQ below (qX4_putPart dC dI cA A m0 m1 m2 m3 m4 m5 m6 m7 m8 m9 cd row sz1 nd tg st ln pa rd of ar dp at_ rs fd pl tx ou wr op on dn v) ([.ref m0, .int v] : List Value).toArray s 0 0 A) (F0 m 71 ls []) := by
              intro nf
              induction nf with
              | zero =>
                intro k ou1 wr1 hm
                exact absurd hm (Nat.not_lt_zero _)
              | succ nf ih_71 =>
                intro k ou1 wr1 hm hk hou1 hwr1 H locs ls hP hD hS hl
                cases k with
                | zero =>
                  refine lv_iload_n hx hb dX4_putPart_71 rfl (lv_at hl 0 rfl) ?_
                  refine lv_if_lt (tgt := 121) hx hb dX4_putPart_72 (by decide) (fun c_9 => ?_) (fun c_9 => absurd (by decide) c_9)
                  refine lv_iconst (v := nI 0) hx hb dX4_putPart_121 (by decide) ?_
                  have hP9 : va_P (dC, dI) vwCl (vX4_putPart cA m0 m1 m2 m3 m4 m5 m6 m7 m8 m9 cd row sz1 nd tg st ln pa rd of ar dp at_ rs fd pl tx ou wr op on dn v (nI 0, ou1, wr1)) _ := hP
                  have hD9 : va_D A (vX4_putPart cA m0 m1 m2 m3 m4 m5 m6 m7 m8 m9 cd row sz1 nd tg st ln pa rd of ar dp at_ rs fd pl tx ou wr op on dn v (nI 0, ou1, wr1)) := hD
                  have hq9 : pX4_putPart m0 m1 m2 m3 m4 m5 m6 m7 m8 m9 cd row sz1 nd tg st ln pa rd of ar dp at_ rs fd pl tx ou wr op on dn v (nI 0) (nI 0, ou1, wr1) := (by have e : ppC v on wr ou op = 0 := (by unfold ppC; rw [if_neg hv0, if_neg (by omega), if_neg (by omega)]); exact ⟨⟨e.symm, Or.inl ⟨e, by omega, hou1, by omega⟩⟩, rfl⟩)
                  exact W.iret (v := nI 0) hx hb hr (fun t ht hW => ⟨⟨nI 0, (nI 0, ou1, wr1), rfl, hq9, by rw [ht]; exact hP9, va_K.moved hW.alike hK, hD9⟩, hS.F ht⟩) hS.2.2 dX4_putPart_122
                | succ k =>
                  have hl : lv_has ls 4 [(3, .int (nI k)), (2, .int (nI 1)), (0, .ref m0), (1, .int v)] := hl
                  refine lv_iload_n hx hb dX4_putPart_71 rfl (lv_at hl 0 rfl) ?_
                  refine hl_if_lt (tgt := 121) hx hb dX4_putPart_72 (by decide) (by omega) (fun c_10 => absurd c_10 (by omega)) (fun c_10 => ?_)
                  refine lv_aload_n hx hb dX4_putPart_75 rfl (lv_at hl 2 rfl) ?_
                  refine va_get (D := (dC, dI)) (ci := 3) (v := .ref m8) (C := RX4) (T := TX4) (N := 22) hx hb hts hinX4 hown hK hP 0 rfl rfl 17 (by decide) hf_35 (fun _ h9 => h9) rfl dX4_putPart_76 ?_
                  refine lv_aload_n hx hb dX4_putPart_79 rfl (lv_at hl 2 rfl) ?_
                  refine va_get (D := (dC, dI)) (ci := 3) (v := .int (nI wr1)) (C := RX4) (T := TX4) (N := 22) hx hb hts hinX4 hown hK hP 0 rfl rfl 18 (by decide) hf_112 (fun _ h9 => h9) rfl dX4_putPart_80 ?_
                  refine lv_iload_n hx hb dX4_putPart_83 rfl (lv_at hl 3 rfl) ?_
                  refine lv_bipush (v := nI 7) hx hb dX4_putPart_84 (by decide) ?_
                  refine lv_iload_n hx hb dX4_putPart_86 rfl (lv_at hl 0 rfl) ?_
                  refine hl_imul hx hb dX4_putPart_87 ?_
                  refine lv_ishr hx hb dX4_putPart_88 ?_
                  refine lv_bipush (v := nI 127) hx hb dX4_putPart_89 (by decide) ?_
                  refine lv_iand hx hb dX4_putPart_91 ?_
                  refine hl_top (b7N_eq v k) ?_
                  refine lv_iload_n hx hb dX4_putPart_92 rfl (lv_at hl 0 rfl) ?_
                  refine hl_if_le (tgt := 102) hx hb dX4_putPart_93 (by decide) (by omega) (fun c_11 => ?_) (fun c_11 => ?_)
                  · refine lv_iconst (v := nI 0) hx hb dX4_putPart_102 (by decide) ?_
                    refine hl_iadd hx hb dX4_putPart_103 ?_
                    refine hl_top (show nI (b7N v k + 0) = nI (bpN v k) by unfold bpN; rw [if_pos (by omega)]; rfl) ?_
                    refine hl_iast hx hb hK hP hD hS 8 0 rfl rfl (by omega) (by decide) dX4_putPart_104 (fun H locs hP hD hS => ?_)
                    have hP : va_P (dC, dI) vwCl (wM cA m0 m1 m2 m3 m4 m5 m6 m7 m8 m9 (nI 0) row sz1 nd tg st ln pa rd of ar dp at_ rs fd pl tx (va_up ou1 wr1 (bpN v k)) wr1 op on dn) H := hP
                    have hD : va_D A (wM cA m0 m1 m2 m3 m4 m5 m6 m7 m8 m9 (nI 0) row sz1 nd tg st ln pa rd of ar dp at_ rs fd pl tx (va_up ou1 wr1 (bpN v k)) wr1 op on dn) := hD
                    refine lv_aload_n hx hb dX4_putPart_105 rfl (lv_at hl 2 rfl) ?_
                    refine lv_dup hx hb dX4_putPart_106 rfl ?_
                    refine va_get (D := (dC, dI)) (ci := 3) (v := .int (nI wr1)) (C := RX4) (T := TX4) (N := 22) hx hb hts hinX4 hown hK hP 0 rfl rfl 18 (by decide) hf_112 (fun _ h9 => h9) rfl dX4_putPart_107 ?_
                    refine lv_iconst (v := nI 1) hx hb dX4_putPart_110 (by decide) ?_
                    refine hl_iadd hx hb dX4_putPart_111 ?_
                    refine va_put (D := (dC, dI)) (ci := 3) (v := .int (nI (wr1 + 1))) (ty := .int) (C := RX4) (T := TX4) (N := 22) hx hb hts hinX4 tyX4 tyX4_ok nmX4 hown hK hP hD hS 0 rfl rfl 18 (by decide) hf_112 (fun _ h9 => h9) rfl (by decide +kernel) rfl rfl (Nat.le_of_ble_eq_true rfl) dX4_putPart_112 (fun H locs hP hD hS => ?_)
                    have hP : va_P (dC, dI) vwCl (wM cA m0 m1 m2 m3 m4 m5 m6 m7 m8 m9 (nI 0) row sz1 nd tg st ln pa rd of ar dp at_ rs fd pl tx (va_up ou1 wr1 (bpN v k)) (wr1 + 1) op on dn) H := hP
                    have hD : va_D A (wM cA m0 m1 m2 m3 m4 m5 m6 m7 m8 m9 (nI 0) row sz1 nd tg st ln pa rd of ar dp at_ rs fd pl tx (va_up ou1 wr1 (bpN v k)) (wr1 + 1) op on dn) := hD
                    refine lv_iinc (v := (mI k)) (lv' := [(3, .int (mI k)), (2, .int (nI 1)), (0, .ref m0), (1, .int v)]) hx hb dX4_putPart_115 hl (k := 0) rfl (mI_dec k) (by decide) rfl (fun ls hl => ?_)
                    refine lv_goto (tgt := 71) hx hb dX4_putPart_118 (by decide) ?_
                    exact ih_71 k (va_up ou1 wr1 (bpN v k)) (wr1 + 1) (by omega) (by omega) (by rw [hou1, hwr1]; exact pB_step _ _ _ hk) (by omega) _ _ _ hP hD hS (lv_sub hl [0, 1, 2, 3] rfl)
                  · refine lv_sipush (v := nI 128) hx hb dX4_putPart_96 (by decide) ?_
                    refine lv_goto (tgt := 103) hx hb dX4_putPart_99 (by decide) ?_
                    refine hl_iadd hx hb dX4_putPart_103 ?_
                    refine hl_top (show nI (b7N v k + 128) = nI (bpN v k) by unfold bpN; rw [if_neg (by omega)]) ?_
                    refine hl_iast hx hb hK hP hD hS 8 0 rfl rfl (by omega) (by decide) dX4_putPart_104 (fun H locs hP hD hS => ?_)
                    have hP : va_P (dC, dI) vwCl (wM cA m0 m1 m2 m3 m4 m5 m6 m7 m8 m9 (nI 0) row sz1 nd tg st ln pa rd of ar dp at_ rs fd pl tx (va_up ou1 wr1 (bpN v k)) wr1 op on dn) H := hP
                    have hD : va_D A (wM cA m0 m1 m2 m3 m4 m5 m6 m7 m8 m9 (nI 0) row sz1 nd tg st ln pa rd of ar dp at_ rs fd pl tx (va_up ou1 wr1 (bpN v k)) wr1 op on dn) := hD
                    refine lv_aload_n hx hb dX4_putPart_105 rfl (lv_at hl 2 rfl) ?_
                    refine lv_dup hx hb dX4_putPart_106 rfl ?_
                    refine va_get (D := (dC, dI)) (ci := 3) (v := .int (nI wr1)) (C := RX4) (T := TX4) (N := 22) hx hb hts hinX4 hown hK hP 0 rfl rfl 18 (by decide) hf_112 (fun _ h9 => h9) rfl dX4_putPart_107 ?_
                    refine lv_iconst (v := nI 1) hx hb dX4_putPart_110 (by decide) ?_
                    refine hl_iadd hx hb dX4_putPart_111 ?_
                    refine va_put (D := (dC, dI)) (ci := 3) (v := .int (nI (wr1 + 1))) (ty := .int) (C := RX4) (T := TX4) (N := 22) hx hb hts hinX4 tyX4 tyX4_ok nmX4 hown hK hP hD hS 0 rfl rfl 18 (by decide) hf_112 (fun _ h9 => h9) rfl (by decide +kernel) rfl rfl (Nat.le_of_ble_eq_true rfl) dX4_putPart_112 (fun H locs hP hD hS => ?_)
                    have hP : va_P (dC, dI) vwCl (wM cA m0 m1 m2 m3 m4 m5 m6 m7 m8 m9 (nI 0) row sz1 nd tg st ln pa rd of ar dp at_ rs fd pl tx (va_up ou1 wr1 (bpN v k)) (wr1 + 1) op on dn) H := hP
                    have hD : va_D A (wM cA m0 m1 m2 m3 m4 m5 m6 m7 m8 m9 (nI 0) row sz1 nd tg st ln pa rd of ar dp at_ rs fd pl tx (va_up ou1 wr1 (bpN v k)) (wr1 + 1) op on dn) := hD
                    refine lv_iinc (v := (mI k)) (lv' := [(3, .int (mI k)), (2, .int (nI 1)), (0, .ref m0), (1, .int v)]) hx hb dX4_putPart_115 hl (k := 0) rfl (mI_dec k) (by decide) rfl (fun ls hl => ?_)
                    refine lv_goto (tgt := 71) hx hb dX4_putPart_118 (by decide) ?_
                    exact ih_71 k (va_up ou1 wr1 (bpN v k)) (wr1 + 1) (by omega) (by omega) (by rw [hou1, hwr1]; exact pB_step _ _ _ hk) (by omega) _ _ _ hP hD hS (lv_sub hl [0, 1, 2, 3] rfl)
            exact lp_71 ((0 + 1) + 1) (0 + 1) ou wr (Nat.lt_succ_self _) (by omega) (by rw [Nat.sub_eq_zero_of_le (by omega)]; rfl) (by omega) _ _ _ hP hD hS (lv_sub hl [0, 1, 2, 3] rfl)
          · refine lv_bipush (v := (-3)) hx hb dX4_putPart_64 (by decide) ?_
            have hP9 : va_P (dC, dI) vwCl (vX4_putPart cA m0 m1 m2 m3 m4 m5 m6 m7 m8 m9 cd row sz1 nd tg st ln pa rd of ar dp at_ rs fd pl tx ou wr op on dn v (nI 0, ou, wr)) _ := hP
            have hD9 : va_D A (vX4_putPart cA m0 m1 m2 m3 m4 m5 m6 m7 m8 m9 cd row sz1 nd tg st ln pa rd of ar dp at_ rs fd pl tx ou wr op on dn v (nI 0, ou, wr)) := hD
            have hq9 : pX4_putPart m0 m1 m2 m3 m4 m5 m6 m7 m8 m9 cd row sz1 nd tg st ln pa rd of ar dp at_ rs fd pl tx ou wr op on dn v ((-3)) (nI 0, ou, wr) := (by have e : ppC v on wr ou op = (-3) := (by unfold ppC; rw [if_neg hv0, if_neg (by omega), if_pos (by omega)]); exact ⟨⟨e.symm, Or.inr ⟨by rw [e]; decide, rfl, rfl⟩⟩, rfl⟩)
            exact W.iret (v := (-3)) hx hb hr (fun t ht hW => ⟨⟨(-3), (nI 0, ou, wr), rfl, hq9, by rw [ht]; exact hP9, va_K.moved hW.alike hK, hD9⟩, hS.F ht⟩) hS.2.2 dX4_putPart_66
        · have c_6 := mt (shr0 rfl hv0).mpr c_6
          refine lv_iinc (v := (nI 2)) (lv' := [(2, .int (nI 2)), (0, .ref m0), (1, .int v)]) hx hb dX4_putPart_46 hl (k := 0) rfl (by decide) (by decide) rfl (fun ls hl => ?_)
          refine lv_goto (tgt := 32) hx hb dX4_putPart_49 (by decide) ?_
          refine lv_iload_n hx hb dX4_putPart_32 rfl (lv_at hl 0 rfl) ?_
          refine lv_iconst (v := nI 5) hx hb dX4_putPart_33 (by decide) ?_
          refine hl_icmp_ge (tgt := 52) hx hb dX4_putPart_34 (by decide) (by omega) (by omega) (fun c_12 => absurd c_12 (by decide)) (fun c_12 => ?_)
          refine lv_iload_n hx hb dX4_putPart_37 rfl (lv_at hl 2 rfl) ?_
          refine lv_bipush (v := nI 7) hx hb dX4_putPart_38 (by decide) ?_
          refine lv_iload_n hx hb dX4_putPart_40 rfl (lv_at hl 0 rfl) ?_
          refine lv_imul hx hb dX4_putPart_41 ?_
          refine hl_top (show _ = nI 14 by decide) ?_
          refine lv_ishr hx hb dX4_putPart_42 ?_
          refine lv_if_le (tgt := 52) hx hb dX4_putPart_43 (by decide) (fun c_13 => ?_) (fun c_13 => ?_)
          · have c_13 := (shr0 rfl hv0).mp c_13
            have hsz : partSz v = 2 := by unfold partSz; simp only [*, if_true, if_false]
            refine lv_aload_n hx hb dX4_putPart_52 rfl (lv_at hl 1 rfl) ?_
            refine va_get (D := (dC, dI)) (ci := 3) (v := .int (nI wr)) (C := RX4) (T := TX4) (N := 22) hx hb hts hinX4 hown hK hP 0 rfl rfl 18 (by decide) hf_112 (fun _ h9 => h9) rfl dX4_putPart_53 ?_
            refine lv_iload_n hx hb dX4_putPart_56 rfl (lv_at hl 0 rfl) ?_
            refine hl_iadd hx hb dX4_putPart_57 ?_
            refine lv_sipush (v := nI 300) hx hb dX4_putPart_58 (by decide) ?_
            refine hl_icmp_le (tgt := 67) hx hb dX4_putPart_61 (by decide) (by omega) (by omega) (fun c_14 => ?_) (fun c_14 => ?_)
            · refine lv_iload_n hx hb dX4_putPart_67 rfl (lv_at hl 0 rfl) ?_
              refine lv_iconst (v := nI 1) hx hb dX4_putPart_68 (by decide) ?_
              refine lv_isub hx hb dX4_putPart_69 ?_
              refine hl_top (show _ = nI 1 by decide) ?_
              refine lv_istore_n (lv' := [(3, .int (nI 1)), (2, .int (nI 2)), (0, .ref m0), (1, .int v)]) hx hb dX4_putPart_70 rfl hl (by decide) rfl (fun ls hl => ?_)
              have lp_71 : ∀ (nf : Nat) (k : Nat) (ou1 : Nat → Nat) (wr1 : Nat), k < nf → (k ≤ partSz v) → (ou1 = pB ou wr (bpN v) (partSz v) (partSz v - k)) → (wr1 = wr + (partSz v - k)) → ∀ (H : Heap) (locs : List Loc) (ls : Array Slot), va_P (dC, dI) vwCl (wM cA m0 m1 m2 m3 m4 m5 m6 m7 m8 m9 (nI 0) row sz1 nd tg st ln pa rd of ar dp at_ rs fd pl tx ou1 wr1 op on dn) H → va_D A (wM cA m0 m1 m2 m3 m4 m5 m6 m7 m8 m9 (nI 0) row sz1 nd tg st ln pa rd of ar dp at_ rs fd pl tx ou1 wr1 op on dn) → va_S A s.heap H locs → lv_has ls 4 [(3, .int (mI k)), (2, .int (nI 2)), (0, .ref m0), (1, .int v)] → W p l e (headSpec wsX4_putPart ({ frames := 1, cells := 0, slots := 0, locals := 20 } : Room)).room s m ([.ref m0, .int v] : List Value).toArray below meth c H locs 0 0 (MQ below (qX4_putPart dC dI cA A m0 m1 m2 m3 m4 m5 m6 m7 m8 m9 cd row sz1 nd tg st ln pa rd of ar dp at_ rs fd pl tx ou wr op on dn v) ([.ref m0, .int v] : List Value).toArray s 0 0 A) (F0 m 71 ls []) := by
                intro nf
                induction nf with
                | zero =>
                  intro k ou1 wr1 hm
                  exact absurd hm (Nat.not_lt_zero _)
                | succ nf ih_71 =>
                  intro k ou1 wr1 hm hk hou1 hwr1 H locs ls hP hD hS hl
                  cases k with
                  | zero =>
                    refine lv_iload_n hx hb dX4_putPart_71 rfl (lv_at hl 0 rfl) ?_
                    refine lv_if_lt (tgt := 121) hx hb dX4_putPart_72 (by decide) (fun c_16 => ?_) (fun c_16 => absurd (by decide) c_16)
                    refine lv_iconst (v := nI 0) hx hb dX4_putPart_121 (by decide) ?_
                    have hP9 : va_P (dC, dI) vwCl (vX4_putPart cA m0 m1 m2 m3 m4 m5 m6 m7 m8 m9 cd row sz1 nd tg st ln pa rd of ar dp at_ rs fd pl tx ou wr op on dn v (nI 0, ou1, wr1)) _ := hP
                    have hD9 : va_D A (vX4_putPart cA m0 m1 m2 m3 m4 m5 m6 m7 m8 m9 cd row sz1 nd tg st ln pa rd of ar dp at_ rs fd pl tx ou wr op on dn v (nI 0, ou1, wr1)) := hD
                    have hq9 : pX4_putPart m0 m1 m2 m3 m4 m5 m6 m7 m8 m9 cd row sz1 nd tg st ln pa rd of ar dp at_ rs fd pl tx ou wr op on dn v (nI 0) (nI 0, ou1, wr1) := (by have e : ppC v on wr ou op = 0 := (by unfold ppC; rw [if_neg hv0, if_neg (by omega), if_neg (by omega)]); exact ⟨⟨e.symm, Or.inl ⟨e, by omega, hou1, by omega⟩⟩, rfl⟩)
                    exact W.iret (v := nI 0) hx hb hr (fun t ht hW => ⟨⟨nI 0, (nI 0, ou1, wr1), rfl, hq9, by rw [ht]; exact hP9, va_K.moved hW.alike hK, hD9⟩, hS.F ht⟩) hS.2.2 dX4_putPart_122
                  | succ k =>
                    have hl : lv_has ls 4 [(3, .int (nI k)), (2, .int (nI 2)), (0, .ref m0), (1, .int v)] := hl
                    refine lv_iload_n hx hb dX4_putPart_71 rfl (lv_at hl 0 rfl) ?_
                    refine hl_if_lt (tgt := 121) hx hb dX4_putPart_72 (by decide) (by omega) (fun c_17 => absurd c_17 (by omega)) (fun c_17 => ?_)
                    refine lv_aload_n hx hb dX4_putPart_75 rfl (lv_at hl 2 rfl) ?_
                    refine va_get (D := (dC, dI)) (ci := 3) (v := .ref m8) (C := RX4) (T := TX4) (N := 22) hx hb hts hinX4 hown hK hP 0 rfl rfl 17 (by decide) hf_35 (fun _ h9 => h9) rfl dX4_putPart_76 ?_
                    refine lv_aload_n hx hb dX4_putPart_79 rfl (lv_at hl 2 rfl) ?_
                    refine va_get (D := (dC, dI)) (ci := 3) (v := .int (nI wr1)) (C := RX4) (T := TX4) (N := 22) hx hb hts hinX4 hown hK hP 0 rfl rfl 18 (by decide) hf_112 (fun _ h9 => h9) rfl dX4_putPart_80 ?_
                    refine lv_iload_n hx hb dX4_putPart_83 rfl (lv_at hl 3 rfl) ?_
                    refine lv_bipush (v := nI 7) hx hb dX4_putPart_84 (by decide) ?_
                    refine lv_iload_n hx hb dX4_putPart_86 rfl (lv_at hl 0 rfl) ?_
                    refine hl_imul hx hb dX4_putPart_87 ?_
                    refine lv_ishr hx hb dX4_putPart_88 ?_
                    refine lv_bipush (v := nI 127) hx hb dX4_putPart_89 (by decide) ?_
                    refine lv_iand hx hb dX4_putPart_91 ?_
                    refine hl_top (b7N_eq v k) ?_
                    refine lv_iload_n hx hb dX4_putPart_92 rfl (lv_at hl 0 rfl) ?_
                    refine hl_if_le (tgt := 102) hx hb dX4_putPart_93 (by decide) (by omega) (fun c_18 => ?_) (fun c_18 => ?_)
                    · refine lv_iconst (v := nI 0) hx hb dX4_putPart_102 (by decide) ?_
                      refine hl_iadd hx hb dX4_putPart_103 ?_
                      refine hl_top (show nI (b7N v k + 0) = nI (bpN v k) by unfold bpN; rw [if_pos (by omega)]; rfl) ?_
                      refine hl_iast hx hb hK hP hD hS 8 0 rfl rfl (by omega) (by decide) dX4_putPart_104 (fun H locs hP hD hS => ?_)
                      have hP : va_P (dC, dI) vwCl (wM cA m0 m1 m2 m3 m4 m5 m6 m7 m8 m9 (nI 0) row sz1 nd tg st ln pa rd of ar dp at_ rs fd pl tx (va_up ou1 wr1 (bpN v k)) wr1 op on dn) H := hP
                      have hD : va_D A (wM cA m0 m1 m2 m3 m4 m5 m6 m7 m8 m9 (nI 0) row sz1 nd tg st ln pa rd of ar dp at_ rs fd pl tx (va_up ou1 wr1 (bpN v k)) wr1 op on dn) := hD
                      refine lv_aload_n hx hb dX4_putPart_105 rfl (lv_at hl 2 rfl) ?_
                      refine lv_dup hx hb dX4_putPart_106 rfl ?_
                      refine va_get (D := (dC, dI)) (ci := 3) (v := .int (nI wr1)) (C := RX4) (T := TX4) (N := 22) hx hb hts hinX4 hown hK hP 0 rfl rfl 18 (by decide) hf_112 (fun _ h9 => h9) rfl dX4_putPart_107 ?_
                      refine lv_iconst (v := nI 1) hx hb dX4_putPart_110 (by decide) ?_
                      refine hl_iadd hx hb dX4_putPart_111 ?_
                      refine va_put (D := (dC, dI)) (ci := 3) (v := .int (nI (wr1 + 1))) (ty := .int) (C := RX4) (T := TX4) (N := 22) hx hb hts hinX4 tyX4 tyX4_ok nmX4 hown hK hP hD hS 0 rfl rfl 18 (by decide) hf_112 (fun _ h9 => h9) rfl (by decide +kernel) rfl rfl (Nat.le_of_ble_eq_true rfl) dX4_putPart_112 (fun H locs hP hD hS => ?_)
                      have hP : va_P (dC, dI) vwCl (wM cA m0 m1 m2 m3 m4 m5 m6 m7 m8 m9 (nI 0) row sz1 nd tg st ln pa rd of ar dp at_ rs fd pl tx (va_up ou1 wr1 (bpN v k)) (wr1 + 1) op on dn) H := hP
                      have hD : va_D A (wM cA m0 m1 m2 m3 m4 m5 m6 m7 m8 m9 (nI 0) row sz1 nd tg st ln pa rd of ar dp at_ rs fd pl tx (va_up ou1 wr1 (bpN v k)) (wr1 + 1) op on dn) := hD
                      refine lv_iinc (v := (mI k)) (lv' := [(3, .int (mI k)), (2, .int (nI 2)), (0, .ref m0), (1, .int v)]) hx hb dX4_putPart_115 hl (k := 0) rfl (mI_dec k) (by decide) rfl (fun ls hl => ?_)
                      refine lv_goto (tgt := 71) hx hb dX4_putPart_118 (by decide) ?_
                      exact ih_71 k (va_up ou1 wr1 (bpN v k)) (wr1 + 1) (by omega) (by omega) (by rw [hou1, hwr1]; exact pB_step _ _ _ hk) (by omega) _ _ _ hP hD hS (lv_sub hl [0, 1, 2, 3] rfl)
                    · refine lv_sipush (v := nI 128) hx hb dX4_putPart_96 (by decide) ?_
                      refine lv_goto (tgt := 103) hx hb dX4_putPart_99 (by decide) ?_
                      refine hl_iadd hx hb dX4_putPart_103 ?_
                      refine hl_top (show nI (b7N v k + 128) = nI (bpN v k) by unfold bpN; rw [if_neg (by omega)]) ?_
                      refine hl_iast hx hb hK hP hD hS 8 0 rfl rfl (by omega) (by decide) dX4_putPart_104 (fun H locs hP hD hS => ?_)
                      have hP : va_P (dC, dI) vwCl (wM cA m0 m1 m2 m3 m4 m5 m6 m7 m8 m9 (nI 0) row sz1 nd tg st ln pa rd of ar dp at_ rs fd pl tx (va_up ou1 wr1 (bpN v k)) wr1 op on dn) H := hP
                      have hD : va_D A (wM cA m0 m1 m2 m3 m4 m5 m6 m7 m8 m9 (nI 0) row sz1 nd tg st ln pa rd of ar dp at_ rs fd pl tx (va_up ou1 wr1 (bpN v k)) wr1 op on dn) := hD
                      refine lv_aload_n hx hb dX4_putPart_105 rfl (lv_at hl 2 rfl) ?_
                      refine lv_dup hx hb dX4_putPart_106 rfl ?_
                      refine va_get (D := (dC, dI)) (ci := 3) (v := .int (nI wr1)) (C := RX4) (T := TX4) (N := 22) hx hb hts hinX4 hown hK hP 0 rfl rfl 18 (by decide) hf_112 (fun _ h9 => h9) rfl dX4_putPart_107 ?_
                      refine lv_iconst (v := nI 1) hx hb dX4_putPart_110 (by decide) ?_
                      refine hl_iadd hx hb dX4_putPart_111 ?_
                      refine va_put (D := (dC, dI)) (ci := 3) (v := .int (nI (wr1 + 1))) (ty := .int) (C := RX4) (T := TX4) (N := 22) hx hb hts hinX4 tyX4 tyX4_ok nmX4 hown hK hP hD hS 0 rfl rfl 18 (by decide) hf_112 (fun _ h9 => h9) rfl (by decide +kernel) rfl rfl (Nat.le_of_ble_eq_true rfl) dX4_putPart_112 (fun H locs hP hD hS => ?_)
                      have hP : va_P (dC, dI) vwCl (wM cA m0 m1 m2 m3 m4 m5 m6 m7 m8 m9 (nI 0) row sz1 nd tg st ln pa rd of ar dp at_ rs fd pl tx (va_up ou1 wr1 (bpN v k)) (wr1 + 1) op on dn) H := hP
                      have hD : va_D A (wM cA m0 m1 m2 m3 m4 m5 m6 m7 m8 m9 (nI 0) row sz1 nd tg st ln pa rd of ar dp at_ rs fd pl tx (va_up ou1 wr1 (bpN v k)) (wr1 + 1) op on dn) := hD
                      refine lv_iinc (v := (mI k)) (lv' := [(3, .int (mI k)), (2, .int (nI 2)), (0, .ref m0), (1, .int v)]) hx hb dX4_putPart_115 hl (k := 0) rfl (mI_dec k) (by decide) rfl (fun ls hl => ?_)
                      refine lv_goto (tgt := 71) hx hb dX4_putPart_118 (by decide) ?_
                      exact ih_71 k (va_up ou1 wr1 (bpN v k)) (wr1 + 1) (by omega) (by omega) (by rw [hou1, hwr1]; exact pB_step _ _ _ hk) (by omega) _ _ _ hP hD hS (lv_sub hl [0, 1, 2, 3] rfl)
              exact lp_71 ((1 + 1) + 1) (1 + 1) ou wr (Nat.lt_succ_self _) (by omega) (by rw [Nat.sub_eq_zero_of_le (by omega)]; rfl) (by omega) _ _ _ hP hD hS (lv_sub hl [0, 1, 2, 3] rfl)
            · refine lv_bipush (v := (-3)) hx hb dX4_putPart_64 (by decide) ?_
              have hP9 : va_P (dC, dI) vwCl (vX4_putPart cA m0 m1 m2 m3 m4 m5 m6 m7 m8 m9 cd row sz1 nd tg st ln pa rd of ar dp at_ rs fd pl tx ou wr op on dn v (nI 0, ou, wr)) _ := hP
              have hD9 : va_D A (vX4_putPart cA m0 m1 m2 m3 m4 m5 m6 m7 m8 m9 cd row sz1 nd tg st ln pa rd of ar dp at_ rs fd pl tx ou wr op on dn v (nI 0, ou, wr)) := hD
              have hq9 : pX4_putPart m0 m1 m2 m3 m4 m5 m6 m7 m8 m9 cd row sz1 nd tg st ln pa rd of ar dp at_ rs fd pl tx ou wr op on dn v ((-3)) (nI 0, ou, wr) := (by have e : ppC v on wr ou op = (-3) := (by unfold ppC; rw [if_neg hv0, if_neg (by omega), if_pos (by omega)]); exact ⟨⟨e.symm, Or.inr ⟨by rw [e]; decide, rfl, rfl⟩⟩, rfl⟩)
              exact W.iret (v := (-3)) hx hb hr (fun t ht hW => ⟨⟨(-3), (nI 0, ou, wr), rfl, hq9, by rw [ht]; exact hP9, va_K.moved hW.alike hK, hD9⟩, hS.F ht⟩) hS.2.2 dX4_putPart_66
          · have c_13 := mt (shr0 rfl hv0).mpr c_13
            refine lv_iinc (v := (nI 3)) (lv' := [(2, .int (nI 3)), (0, .ref m0), (1, .int v)]) hx hb dX4_putPart_46 hl (k := 0) rfl (by decide) (by decide) rfl (fun ls hl => ?_)
            refine lv_goto (tgt := 32) hx hb dX4_putPart_49 (by decide) ?_
            refine lv_iload_n hx hb dX4_putPart_32 rfl (lv_at hl 0 rfl) ?_
            refine lv_iconst (v := nI 5) hx hb dX4_putPart_33 (by decide) ?_
            refine hl_icmp_ge (tgt := 52) hx hb dX4_putPart_34 (by decide) (by omega) (by omega) (fun c_19 => absurd c_19 (by decide)) (fun c_19 => ?_)
            refine lv_iload_n hx hb dX4_putPart_37 rfl (lv_at hl 2 rfl) ?_
            refine lv_bipush (v := nI 7) hx hb dX4_putPart_38 (by decide) ?_
            refine lv_iload_n hx hb dX4_putPart_40 rfl (lv_at hl 0 rfl) ?_
            refine lv_imul hx hb dX4_putPart_41 ?_
            refine hl_top (show _ = nI 21 by decide) ?_
            refine lv_ishr hx hb dX4_putPart_42 ?_
            refine lv_if_le (tgt := 52) hx hb dX4_putPart_43 (by decide) (fun c_20 => ?_) (fun c_20 => ?_)
            · have c_20 := (shr0 rfl hv0).mp c_20
              have hsz : partSz v = 3 := by unfold partSz; simp only [*, if_true, if_false]
              refine lv_aload_n hx hb dX4_putPart_52 rfl (lv_at hl 1 rfl) ?_
              refine va_get (D := (dC, dI)) (ci := 3) (v := .int (nI wr)) (C := RX4) (T := TX4) (N := 22) hx hb hts hinX4 hown hK hP 0 rfl rfl 18 (by decide) hf_112 (fun _ h9 => h9) rfl dX4_putPart_53 ?_
              refine lv_iload_n hx hb dX4_putPart_56 rfl (lv_at hl 0 rfl) ?_
              refine hl_iadd hx hb dX4_putPart_57 ?_
              refine lv_sipush (v := nI 300) hx hb dX4_putPart_58 (by decide) ?_
              refine hl_icmp_le (tgt := 67) hx hb dX4_putPart_61 (by decide) (by omega) (by omega) (fun c_21 => ?_) (fun c_21 => ?_)
              · refine lv_iload_n hx hb dX4_putPart_67 rfl (lv_at hl 0 rfl) ?_
                refine lv_iconst (v := nI 1) hx hb dX4_putPart_68 (by decide) ?_
                refine lv_isub hx hb dX4_putPart_69 ?_
                refine hl_top (show _ = nI 2 by decide) ?_
                refine lv_istore_n (lv' := [(3, .int (nI 2)), (2, .int (nI 3)), (0, .ref m0), (1, .int v)]) hx hb dX4_putPart_70 rfl hl (by decide) rfl (fun ls hl => ?_)
                have lp_71 : ∀ (nf : Nat) (k : Nat) (ou1 : Nat → Nat) (wr1 : Nat), k < nf → (k ≤ partSz v) → (ou1 = pB ou wr (bpN v) (partSz v) (partSz v - k)) → (wr1 = wr + (partSz v - k)) → ∀ (H : Heap) (locs : List Loc) (ls : Array Slot), va_P (dC, dI) vwCl (wM cA m0 m1 m2 m3 m4 m5 m6 m7 m8 m9 (nI 0) row sz1 nd tg st ln pa rd of ar dp at_ rs fd pl tx ou1 wr1 op on dn) H → va_D A (wM cA m0 m1 m2 m3 m4 m5 m6 m7 m8 m9 (nI 0) row sz1 nd tg st ln pa rd of ar dp at_ rs fd pl tx ou1 wr1 op on dn) → va_S A s.heap H locs → lv_has ls 4 [(3, .int (mI k)), (2, .int (nI 3)), (0, .ref m0), (1, .int v)] → W p l e (headSpec wsX4_putPart ({ frames := 1, cells := 0, slots := 0, locals := 20 } : Room)).room s m ([.ref m0, .int v] : List Value).toArray below meth c H locs 0 0 (MQ below (qX4_putPart dC dI cA A m0 m1 m2 m3 m4 m5 m6 m7 m8 m9 cd row sz1 nd tg st ln pa rd of ar dp at_ rs fd pl tx ou wr op on dn v) ([.ref m0, .int v] : List Value).toArray s 0 0 A) (F0 m 71 ls []) := by
                  intro nf
                  induction nf with
                  | zero =>
                    intro k ou1 wr1 hm
                    exact absurd hm (Nat.not_lt_zero _)
                  | succ nf ih_71 =>
                    intro k ou1 wr1 hm hk hou1 hwr1 H locs ls hP hD hS hl
                    cases k with
                    | zero =>
                      refine lv_iload_n hx hb dX4_putPart_71 rfl (lv_at hl 0 rfl) ?_
                      refine lv_if_lt (tgt := 121) hx hb dX4_putPart_72 (by decide) (fun c_23 => ?_) (fun c_23 => absurd (by decide) c_23)
                      refine lv_iconst (v := nI 0) hx hb dX4_putPart_121 (by decide) ?_
                      have hP9 : va_P (dC, dI) vwCl (vX4_putPart cA m0 m1 m2 m3 m4 m5 m6 m7 m8 m9 cd row sz1 nd tg st ln pa rd of ar dp at_ rs fd pl tx ou wr op on dn v (nI 0, ou1, wr1)) _ := hP
                      have hD9 : va_D A (vX4_putPart cA m0 m1 m2 m3 m4 m5 m6 m7 m8 m9 cd row sz1 nd tg st ln pa rd of ar dp at_ rs fd pl tx ou wr op on dn v (nI 0, ou1, wr1)) := hD
                      have hq9 : pX4_putPart m0 m1 m2 m3 m4 m5 m6 m7 m8 m9 cd row sz1 nd tg st ln pa rd of ar dp at_ rs fd pl tx ou wr op on dn v (nI 0) (nI 0, ou1, wr1) := (by have e : ppC v on wr ou op = 0 := (by unfold ppC; rw [if_neg hv0, if_neg (by omega), if_neg (by omega)]); exact ⟨⟨e.symm, Or.inl ⟨e, by omega, hou1, by omega⟩⟩, rfl⟩)
                      exact W.iret (v := nI 0) hx hb hr (fun t ht hW => ⟨⟨nI 0, (nI 0, ou1, wr1), rfl, hq9, by rw [ht]; exact hP9, va_K.moved hW.alike hK, hD9⟩, hS.F ht⟩) hS.2.2 dX4_putPart_122
                    | succ k =>
                      have hl : lv_has ls 4 [(3, .int (nI k)), (2, .int (nI 3)), (0, .ref m0), (1, .int v)] := hl
                      refine lv_iload_n hx hb dX4_putPart_71 rfl (lv_at hl 0 rfl) ?_
                      refine hl_if_lt (tgt := 121) hx hb dX4_putPart_72 (by decide) (by omega) (fun c_24 => absurd c_24 (by omega)) (fun c_24 => ?_)
                      refine lv_aload_n hx hb dX4_putPart_75 rfl (lv_at hl 2 rfl) ?_
                      refine va_get (D := (dC, dI)) (ci := 3) (v := .ref m8) (C := RX4) (T := TX4) (N := 22) hx hb hts hinX4 hown hK hP 0 rfl rfl 17 (by decide) hf_35 (fun _ h9 => h9) rfl dX4_putPart_76 ?_
                      refine lv_aload_n hx hb dX4_putPart_79 rfl (lv_at hl 2 rfl) ?_
                      refine va_get (D := (dC, dI)) (ci := 3) (v := .int (nI wr1)) (C := RX4) (T := TX4) (N := 22) hx hb hts hinX4 hown hK hP 0 rfl rfl 18 (by decide) hf_112 (fun _ h9 => h9) rfl dX4_putPart_80 ?_
                      refine lv_iload_n hx hb dX4_putPart_83 rfl (lv_at hl 3 rfl) ?_
                      refine lv_bipush (v := nI 7) hx hb dX4_putPart_84 (by decide) ?_
                      refine lv_iload_n hx hb dX4_putPart_86 rfl (lv_at hl 0 rfl) ?_
                      refine hl_imul hx hb dX4_putPart_87 ?_
                      refine lv_ishr hx hb dX4_putPart_88 ?_
                      refine lv_bipush (v := nI 127) hx hb dX4_putPart_89 (by decide) ?_
                      refine lv_iand hx hb dX4_putPart_91 ?_
                      refine hl_top (b7N_eq v k) ?_
                      refine lv_iload_n hx hb dX4_putPart_92 rfl (lv_at hl 0 rfl) ?_
                      refine hl_if_le (tgt := 102) hx hb dX4_putPart_93 (by decide) (by omega) (fun c_25 => ?_) (fun c_25 => ?_)
                      · refine lv_iconst (v := nI 0) hx hb dX4_putPart_102 (by decide) ?_
                        refine hl_iadd hx hb dX4_putPart_103 ?_
                        refine hl_top (show nI (b7N v k + 0) = nI (bpN v k) by unfold bpN; rw [if_pos (by omega)]; rfl) ?_
                        refine hl_iast hx hb hK hP hD hS 8 0 rfl rfl (by omega) (by decide) dX4_putPart_104 (fun H locs hP hD hS => ?_)
                        have hP : va_P (dC, dI) vwCl (wM cA m0 m1 m2 m3 m4 m5 m6 m7 m8 m9 (nI 0) row sz1 nd tg st ln pa rd of ar dp at_ rs fd pl tx (va_up ou1 wr1 (bpN v k)) wr1 op on dn) H := hP
                        have hD : va_D A (wM cA m0 m1 m2 m3 m4 m5 m6 m7 m8 m9 (nI 0) row sz1 nd tg st ln pa rd of ar dp at_ rs fd pl tx (va_up ou1 wr1 (bpN v k)) wr1 op on dn) := hD
                        refine lv_aload_n hx hb dX4_putPart_105 rfl (lv_at hl 2 rfl) ?_
                        refine lv_dup hx hb dX4_putPart_106 rfl ?_
                        refine va_get (D := (dC, dI)) (ci := 3) (v := .int (nI wr1)) (C := RX4) (T := TX4) (N := 22) hx hb hts hinX4 hown hK hP 0 rfl rfl 18 (by decide) hf_112 (fun _ h9 => h9) rfl dX4_putPart_107 ?_
                        refine lv_iconst (v := nI 1) hx hb dX4_putPart_110 (by decide) ?_
                        refine hl_iadd hx hb dX4_putPart_111 ?_
                        refine va_put (D := (dC, dI)) (ci := 3) (v := .int (nI (wr1 + 1))) (ty := .int) (C := RX4) (T := TX4) (N := 22) hx hb hts hinX4 tyX4 tyX4_ok nmX4 hown hK hP hD hS 0 rfl rfl 18 (by decide) hf_112 (fun _ h9 => h9) rfl (by decide +kernel) rfl rfl (Nat.le_of_ble_eq_true rfl) dX4_putPart_112 (fun H locs hP hD hS => ?_)
                        have hP : va_P (dC, dI) vwCl (wM cA m0 m1 m2 m3 m4 m5 m6 m7 m8 m9 (nI 0) row sz1 nd tg st ln pa rd of ar dp at_ rs fd pl tx (va_up ou1 wr1 (bpN v k)) (wr1 + 1) op on dn) H := hP
                        have hD : va_D A (wM cA m0 m1 m2 m3 m4 m5 m6 m7 m8 m9 (nI 0) row sz1 nd tg st ln pa rd of ar dp at_ rs fd pl tx (va_up ou1 wr1 (bpN v k)) (wr1 + 1) op on dn) := hD
                        refine lv_iinc (v := (mI k)) (lv' := [(3, .int (mI k)), (2, .int (nI 3)), (0, .ref m0), (1, .int v)]) hx hb dX4_putPart_115 hl (k := 0) rfl (mI_dec k) (by decide) rfl (fun ls hl => ?_)
                        refine lv_goto (tgt := 71) hx hb dX4_putPart_118 (by decide) ?_
                        exact ih_71 k (va_up ou1 wr1 (bpN v k)) (wr1 + 1) (by omega) (by omega) (by rw [hou1, hwr1]; exact pB_step _ _ _ hk) (by omega) _ _ _ hP hD hS (lv_sub hl [0, 1, 2, 3] rfl)
                      · refine lv_sipush (v := nI 128) hx hb dX4_putPart_96 (by decide) ?_
                        refine lv_goto (tgt := 103) hx hb dX4_putPart_99 (by decide) ?_
                        refine hl_iadd hx hb dX4_putPart_103 ?_
                        refine hl_top (show nI (b7N v k + 128) = nI (bpN v k) by unfold bpN; rw [if_neg (by omega)]) ?_
                        refine hl_iast hx hb hK hP hD hS 8 0 rfl rfl (by omega) (by decide) dX4_putPart_104 (fun H locs hP hD hS => ?_)
                        have hP : va_P (dC, dI) vwCl (wM cA m0 m1 m2 m3 m4 m5 m6 m7 m8 m9 (nI 0) row sz1 nd tg st ln pa rd of ar dp at_ rs fd pl tx (va_up ou1 wr1 (bpN v k)) wr1 op on dn) H := hP
                        have hD : va_D A (wM cA m0 m1 m2 m3 m4 m5 m6 m7 m8 m9 (nI 0) row sz1 nd tg st ln pa rd of ar dp at_ rs fd pl tx (va_up ou1 wr1 (bpN v k)) wr1 op on dn) := hD
                        refine lv_aload_n hx hb dX4_putPart_105 rfl (lv_at hl 2 rfl) ?_
                        refine lv_dup hx hb dX4_putPart_106 rfl ?_
                        refine va_get (D := (dC, dI)) (ci := 3) (v := .int (nI wr1)) (C := RX4) (T := TX4) (N := 22) hx hb hts hinX4 hown hK hP 0 rfl rfl 18 (by decide) hf_112 (fun _ h9 => h9) rfl dX4_putPart_107 ?_
                        refine lv_iconst (v := nI 1) hx hb dX4_putPart_110 (by decide) ?_
                        refine hl_iadd hx hb dX4_putPart_111 ?_
                        refine va_put (D := (dC, dI)) (ci := 3) (v := .int (nI (wr1 + 1))) (ty := .int) (C := RX4) (T := TX4) (N := 22) hx hb hts hinX4 tyX4 tyX4_ok nmX4 hown hK hP hD hS 0 rfl rfl 18 (by decide) hf_112 (fun _ h9 => h9) rfl (by decide +kernel) rfl rfl (Nat.le_of_ble_eq_true rfl) dX4_putPart_112 (fun H locs hP hD hS => ?_)
                        have hP : va_P (dC, dI) vwCl (wM cA m0 m1 m2 m3 m4 m5 m6 m7 m8 m9 (nI 0) row sz1 nd tg st ln pa rd of ar dp at_ rs fd pl tx (va_up ou1 wr1 (bpN v k)) (wr1 + 1) op on dn) H := hP
                        have hD : va_D A (wM cA m0 m1 m2 m3 m4 m5 m6 m7 m8 m9 (nI 0) row sz1 nd tg st ln pa rd of ar dp at_ rs fd pl tx (va_up ou1 wr1 (bpN v k)) (wr1 + 1) op on dn) := hD
                        refine lv_iinc (v := (mI k)) (lv' := [(3, .int (mI k)), (2, .int (nI 3)), (0, .ref m0), (1, .int v)]) hx hb dX4_putPart_115 hl (k := 0) rfl (mI_dec k) (by decide) rfl (fun ls hl => ?_)
                        refine lv_goto (tgt := 71) hx hb dX4_putPart_118 (by decide) ?_
                        exact ih_71 k (va_up ou1 wr1 (bpN v k)) (wr1 + 1) (by omega) (by omega) (by rw [hou1, hwr1]; exact pB_step _ _ _ hk) (by omega) _ _ _ hP hD hS (lv_sub hl [0, 1, 2, 3] rfl)
                exact lp_71 ((2 + 1) + 1) (2 + 1) ou wr (Nat.lt_succ_self _) (by omega) (by rw [Nat.sub_eq_zero_of_le (by omega)]; rfl) (by omega) _ _ _ hP hD hS (lv_sub hl [0, 1, 2, 3] rfl)
              · refine lv_bipush (v := (-3)) hx hb dX4_putPart_64 (by decide) ?_
                have hP9 : va_P (dC, dI) vwCl (vX4_putPart cA m0 m1 m2 m3 m4 m5 m6 m7 m8 m9 cd row sz1 nd tg st ln pa rd of ar dp at_ rs fd pl tx ou wr op on dn v (nI 0, ou, wr)) _ := hP
                have hD9 : va_D A (vX4_putPart cA m0 m1 m2 m3 m4 m5 m6 m7 m8 m9 cd row sz1 nd tg st ln pa rd of ar dp at_ rs fd pl tx ou wr op on dn v (nI 0, ou, wr)) := hD
                have hq9 : pX4_putPart m0 m1 m2 m3 m4 m5 m6 m7 m8 m9 cd row sz1 nd tg st ln pa rd of ar dp at_ rs fd pl tx ou wr op on dn v ((-3)) (nI 0, ou, wr) := (by have e : ppC v on wr ou op = (-3) := (by unfold ppC; rw [if_neg hv0, if_neg (by omega), if_pos (by omega)]); exact ⟨⟨e.symm, Or.inr ⟨by rw [e]; decide, rfl, rfl⟩⟩, rfl⟩)
                exact W.iret (v := (-3)) hx hb hr (fun t ht hW => ⟨⟨(-3), (nI 0, ou, wr), rfl, hq9, by rw [ht]; exact hP9, va_K.moved hW.alike hK, hD9⟩, hS.F ht⟩) hS.2.2 dX4_putPart_66
            · have c_20 := mt (shr0 rfl hv0).mpr c_20
              refine lv_iinc (v := (nI 4)) (lv' := [(2, .int (nI 4)), (0, .ref m0), (1, .int v)]) hx hb dX4_putPart_46 hl (k := 0) rfl (by decide) (by decide) rfl (fun ls hl => ?_)
              refine lv_goto (tgt := 32) hx hb dX4_putPart_49 (by decide) ?_
              refine lv_iload_n hx hb dX4_putPart_32 rfl (lv_at hl 0 rfl) ?_
              refine lv_iconst (v := nI 5) hx hb dX4_putPart_33 (by decide) ?_
              refine hl_icmp_ge (tgt := 52) hx hb dX4_putPart_34 (by decide) (by omega) (by omega) (fun c_26 => absurd c_26 (by decide)) (fun c_26 => ?_)
              refine lv_iload_n hx hb dX4_putPart_37 rfl (lv_at hl 2 rfl) ?_
              refine lv_bipush (v := nI 7) hx hb dX4_putPart_38 (by decide) ?_
              refine lv_iload_n hx hb dX4_putPart_40 rfl (lv_at hl 0 rfl) ?_
              refine lv_imul hx hb dX4_putPart_41 ?_
              refine hl_top (show _ = nI 28 by decide) ?_
              refine lv_ishr hx hb dX4_putPart_42 ?_
              refine lv_if_le (tgt := 52) hx hb dX4_putPart_43 (by decide) (fun c_27 => ?_) (fun c_27 => ?_)
              · have c_27 := (shr0 rfl hv0).mp c_27
                have hsz : partSz v = 4 := by unfold partSz; simp only [*, if_true, if_false]
                refine lv_aload_n hx hb dX4_putPart_52 rfl (lv_at hl 1 rfl) ?_
                refine va_get (D := (dC, dI)) (ci := 3) (v := .int (nI wr)) (C := RX4) (T := TX4) (N := 22) hx hb hts hinX4 hown hK hP 0 rfl rfl 18 (by decide) hf_112 (fun _ h9 => h9) rfl dX4_putPart_53 ?_
                refine lv_iload_n hx hb dX4_putPart_56 rfl (lv_at hl 0 rfl) ?_
                refine hl_iadd hx hb dX4_putPart_57 ?_
                refine lv_sipush (v := nI 300) hx hb dX4_putPart_58 (by decide) ?_
                refine hl_icmp_le (tgt := 67) hx hb dX4_putPart_61 (by decide) (by omega) (by omega) (fun c_28 => ?_) (fun c_28 => ?_)
                · refine lv_iload_n hx hb dX4_putPart_67 rfl (lv_at hl 0 rfl) ?_
                  refine lv_iconst (v := nI 1) hx hb dX4_putPart_68 (by decide) ?_
                  refine lv_isub hx hb dX4_putPart_69 ?_
                  refine hl_top (show _ = nI 3 by decide) ?_
                  refine lv_istore_n (lv' := [(3, .int (nI 3)), (2, .int (nI 4)), (0, .ref m0), (1, .int v)]) hx hb dX4_putPart_70 rfl hl (by decide) rfl (fun ls hl => ?_)
                  have lp_71 : ∀ (nf : Nat) (k : Nat) (ou1 : Nat → Nat) (wr1 : Nat), k < nf → (k ≤ partSz v) → (ou1 = pB ou wr (bpN v) (partSz v) (partSz v - k)) → (wr1 = wr + (partSz v - k)) → ∀ (H : Heap) (locs : List Loc) (ls : Array Slot), va_P (dC, dI) vwCl (wM cA m0 m1 m2 m3 m4 m5 m6 m7 m8 m9 (nI 0) row sz1 nd tg st ln pa rd of ar dp at_ rs fd pl tx ou1 wr1 op on dn) H → va_D A (wM cA m0 m1 m2 m3 m4 m5 m6 m7 m8 m9 (nI 0) row sz1 nd tg st ln pa rd of ar dp at_ rs fd pl tx ou1 wr1 op on dn) → va_S A s.heap H locs → lv_has ls 4 [(3, .int (mI k)), (2, .int (nI 4)), (0, .ref m0), (1, .int v)] → W p l e (headSpec wsX4_putPart ({ frames := 1, cells := 0, slots := 0, locals := 20 } : Room)).room s m ([.ref m0, .int v] : List Value).toArray below meth c H locs 0 0 (MQ below (qX4_putPart dC dI cA A m0 m1 m2 m3 m4 m5 m6 m7 m8 m9 cd row sz1 nd tg st ln pa rd of ar dp at_ rs fd pl tx ou wr op on dn v) ([.ref m0, .int v] : List Value).toArray s 0 0 A) (F0 m 71 ls []) := by
                    intro nf
                    induction nf with
                    | zero =>
                      intro k ou1 wr1 hm
                      exact absurd hm (Nat.not_lt_zero _)
                    | succ nf ih_71 =>
                      intro k ou1 wr1 hm hk hou1 hwr1 H locs ls hP hD hS hl
                      cases k with
                      | zero =>
                        refine lv_iload_n hx hb dX4_putPart_71 rfl (lv_at hl 0 rfl) ?_
                        refine lv_if_lt (tgt := 121) hx hb dX4_putPart_72 (by decide) (fun c_30 => ?_) (fun c_30 => absurd (by decide) c_30)
                        refine lv_iconst (v := nI 0) hx hb dX4_putPart_121 (by decide) ?_
                        have hP9 : va_P (dC, dI) vwCl (vX4_putPart cA m0 m1 m2 m3 m4 m5 m6 m7 m8 m9 cd row sz1 nd tg st ln pa rd of ar dp at_ rs fd pl tx ou wr op on dn v (nI 0, ou1, wr1)) _ := hP
                        have hD9 : va_D A (vX4_putPart cA m0 m1 m2 m3 m4 m5 m6 m7 m8 m9 cd row sz1 nd tg st ln pa rd of ar dp at_ rs fd pl tx ou wr op on dn v (nI 0, ou1, wr1)) := hD
                        have hq9 : pX4_putPart m0 m1 m2 m3 m4 m5 m6 m7 m8 m9 cd row sz1 nd tg st ln pa rd of ar dp at_ rs fd pl tx ou wr op on dn v (nI 0) (nI 0, ou1, wr1) := (by have e : ppC v on wr ou op = 0 := (by unfold ppC; rw [if_neg hv0, if_neg (by omega), if_neg (by omega)]); exact ⟨⟨e.symm, Or.inl ⟨e, by omega, hou1, by omega⟩⟩, rfl⟩)
                        exact W.iret (v := nI 0) hx hb hr (fun t ht hW => ⟨⟨nI 0, (nI 0, ou1, wr1), rfl, hq9, by rw [ht]; exact hP9, va_K.moved hW.alike hK, hD9⟩, hS.F ht⟩) hS.2.2 dX4_putPart_122
                      | succ k =>
                        have hl : lv_has ls 4 [(3, .int (nI k)), (2, .int (nI 4)), (0, .ref m0), (1, .int v)] := hl
                        refine lv_iload_n hx hb dX4_putPart_71 rfl (lv_at hl 0 rfl) ?_
                        refine hl_if_lt (tgt := 121) hx hb dX4_putPart_72 (by decide) (by omega) (fun c_31 => absurd c_31 (by omega)) (fun c_31 => ?_)
                        refine lv_aload_n hx hb dX4_putPart_75 rfl (lv_at hl 2 rfl) ?_
                        refine va_get (D := (dC, dI)) (ci := 3) (v := .ref m8) (C := RX4) (T := TX4) (N := 22) hx hb hts hinX4 hown hK hP 0 rfl rfl 17 (by decide) hf_35 (fun _ h9 => h9) rfl dX4_putPart_76 ?_
                        refine lv_aload_n hx hb dX4_putPart_79 rfl (lv_at hl 2 rfl) ?_
                        refine va_get (D := (dC, dI)) (ci := 3) (v := .int (nI wr1)) (C := RX4) (T := TX4) (N := 22) hx hb hts hinX4 hown hK hP 0 rfl rfl 18 (by decide) hf_112 (fun _ h9 => h9) rfl dX4_putPart_80 ?_
                        refine lv_iload_n hx hb dX4_putPart_83 rfl (lv_at hl 3 rfl) ?_
                        refine lv_bipush (v := nI 7) hx hb dX4_putPart_84 (by decide) ?_
                        refine lv_iload_n hx hb dX4_putPart_86 rfl (lv_at hl 0 rfl) ?_
                        refine hl_imul hx hb dX4_putPart_87 ?_
                        refine lv_ishr hx hb dX4_putPart_88 ?_
                        refine lv_bipush (v := nI 127) hx hb dX4_putPart_89 (by decide) ?_
                        refine lv_iand hx hb dX4_putPart_91 ?_
                        refine hl_top (b7N_eq v k) ?_
                        refine lv_iload_n hx hb dX4_putPart_92 rfl (lv_at hl 0 rfl) ?_
                        refine hl_if_le (tgt := 102) hx hb dX4_putPart_93 (by decide) (by omega) (fun c_32 => ?_) (fun c_32 => ?_)
                        · refine lv_iconst (v := nI 0) hx hb dX4_putPart_102 (by decide) ?_
                          refine hl_iadd hx hb dX4_putPart_103 ?_
                          refine hl_top (show nI (b7N v k + 0) = nI (bpN v k) by unfold bpN; rw [if_pos (by omega)]; rfl) ?_
                          refine hl_iast hx hb hK hP hD hS 8 0 rfl rfl (by omega) (by decide) dX4_putPart_104 (fun H locs hP hD hS => ?_)
                          have hP : va_P (dC, dI) vwCl (wM cA m0 m1 m2 m3 m4 m5 m6 m7 m8 m9 (nI 0) row sz1 nd tg st ln pa rd of ar dp at_ rs fd pl tx (va_up ou1 wr1 (bpN v k)) wr1 op on dn) H := hP
                          have hD : va_D A (wM cA m0 m1 m2 m3 m4 m5 m6 m7 m8 m9 (nI 0) row sz1 nd tg st ln pa rd of ar dp at_ rs fd pl tx (va_up ou1 wr1 (bpN v k)) wr1 op on dn) := hD
                          refine lv_aload_n hx hb dX4_putPart_105 rfl (lv_at hl 2 rfl) ?_
                          refine lv_dup hx hb dX4_putPart_106 rfl ?_
                          refine va_get (D := (dC, dI)) (ci := 3) (v := .int (nI wr1)) (C := RX4) (T := TX4) (N := 22) hx hb hts hinX4 hown hK hP 0 rfl rfl 18 (by decide) hf_112 (fun _ h9 => h9) rfl dX4_putPart_107 ?_
                          refine lv_iconst (v := nI 1) hx hb dX4_putPart_110 (by decide) ?_
                          refine hl_iadd hx hb dX4_putPart_111 ?_
                          refine va_put (D := (dC, dI)) (ci := 3) (v := .int (nI (wr1 + 1))) (ty := .int) (C := RX4) (T := TX4) (N := 22) hx hb hts hinX4 tyX4 tyX4_ok nmX4 hown hK hP hD hS 0 rfl rfl 18 (by decide) hf_112 (fun _ h9 => h9) rfl (by decide +kernel) rfl rfl (Nat.le_of_ble_eq_true rfl) dX4_putPart_112 (fun H locs hP hD hS => ?_)
                          have hP : va_P (dC, dI) vwCl (wM cA m0 m1 m2 m3 m4 m5 m6 m7 m8 m9 (nI 0) row sz1 nd tg st ln pa rd of ar dp at_ rs fd pl tx (va_up ou1 wr1 (bpN v k)) (wr1 + 1) op on dn) H := hP
                          have hD : va_D A (wM cA m0 m1 m2 m3 m4 m5 m6 m7 m8 m9 (nI 0) row sz1 nd tg st ln pa rd of ar dp at_ rs fd pl tx (va_up ou1 wr1 (bpN v k)) (wr1 + 1) op on dn) := hD
                          refine lv_iinc (v := (mI k)) (lv' := [(3, .int (mI k)), (2, .int (nI 4)), (0, .ref m0), (1, .int v)]) hx hb dX4_putPart_115 hl (k := 0) rfl (mI_dec k) (by decide) rfl (fun ls hl => ?_)
                          refine lv_goto (tgt := 71) hx hb dX4_putPart_118 (by decide) ?_
                          exact ih_71 k (va_up ou1 wr1 (bpN v k)) (wr1 + 1) (by omega) (by omega) (by rw [hou1, hwr1]; exact pB_step _ _ _ hk) (by omega) _ _ _ hP hD hS (lv_sub hl [0, 1, 2, 3] rfl)
                        · refine lv_sipush (v := nI 128) hx hb dX4_putPart_96 (by decide) ?_
                          refine lv_goto (tgt := 103) hx hb dX4_putPart_99 (by decide) ?_
                          refine hl_iadd hx hb dX4_putPart_103 ?_
                          refine hl_top (show nI (b7N v k + 128) = nI (bpN v k) by unfold bpN; rw [if_neg (by omega)]) ?_
                          refine hl_iast hx hb hK hP hD hS 8 0 rfl rfl (by omega) (by decide) dX4_putPart_104 (fun H locs hP hD hS => ?_)
                          have hP : va_P (dC, dI) vwCl (wM cA m0 m1 m2 m3 m4 m5 m6 m7 m8 m9 (nI 0) row sz1 nd tg st ln pa rd of ar dp at_ rs fd pl tx (va_up ou1 wr1 (bpN v k)) wr1 op on dn) H := hP
                          have hD : va_D A (wM cA m0 m1 m2 m3 m4 m5 m6 m7 m8 m9 (nI 0) row sz1 nd tg st ln pa rd of ar dp at_ rs fd pl tx (va_up ou1 wr1 (bpN v k)) wr1 op on dn) := hD
                          refine lv_aload_n hx hb dX4_putPart_105 rfl (lv_at hl 2 rfl) ?_
                          refine lv_dup hx hb dX4_putPart_106 rfl ?_
                          refine va_get (D := (dC, dI)) (ci := 3) (v := .int (nI wr1)) (C := RX4) (T := TX4) (N := 22) hx hb hts hinX4 hown hK hP 0 rfl rfl 18 (by decide) hf_112 (fun _ h9 => h9) rfl dX4_putPart_107 ?_
                          refine lv_iconst (v := nI 1) hx hb dX4_putPart_110 (by decide) ?_
                          refine hl_iadd hx hb dX4_putPart_111 ?_
                          refine va_put (D := (dC, dI)) (ci := 3) (v := .int (nI (wr1 + 1))) (ty := .int) (C := RX4) (T := TX4) (N := 22) hx hb hts hinX4 tyX4 tyX4_ok nmX4 hown hK hP hD hS 0 rfl rfl 18 (by decide) hf_112 (fun _ h9 => h9) rfl (by decide +kernel) rfl rfl (Nat.le_of_ble_eq_true rfl) dX4_putPart_112 (fun H locs hP hD hS => ?_)
                          have hP : va_P (dC, dI) vwCl (wM cA m0 m1 m2 m3 m4 m5 m6 m7 m8 m9 (nI 0) row sz1 nd tg st ln pa rd of ar dp at_ rs fd pl tx (va_up ou1 wr1 (bpN v k)) (wr1 + 1) op on dn) H := hP
                          have hD : va_D A (wM cA m0 m1 m2 m3 m4 m5 m6 m7 m8 m9 (nI 0) row sz1 nd tg st ln pa rd of ar dp at_ rs fd pl tx (va_up ou1 wr1 (bpN v k)) (wr1 + 1) op on dn) := hD
                          refine lv_iinc (v := (mI k)) (lv' := [(3, .int (mI k)), (2, .int (nI 4)), (0, .ref m0), (1, .int v)]) hx hb dX4_putPart_115 hl (k := 0) rfl (mI_dec k) (by decide) rfl (fun ls hl => ?_)
                          refine lv_goto (tgt := 71) hx hb dX4_putPart_118 (by decide) ?_
                          exact ih_71 k (va_up ou1 wr1 (bpN v k)) (wr1 + 1) (by omega) (by omega) (by rw [hou1, hwr1]; exact pB_step _ _ _ hk) (by omega) _ _ _ hP hD hS (lv_sub hl [0, 1, 2, 3] rfl)
                  exact lp_71 ((3 + 1) + 1) (3 + 1) ou wr (Nat.lt_succ_self _) (by omega) (by rw [Nat.sub_eq_zero_of_le (by omega)]; rfl) (by omega) _ _ _ hP hD hS (lv_sub hl [0, 1, 2, 3] rfl)
                · refine lv_bipush (v := (-3)) hx hb dX4_putPart_64 (by decide) ?_
                  have hP9 : va_P (dC, dI) vwCl (vX4_putPart cA m0 m1 m2 m3 m4 m5 m6 m7 m8 m9 cd row sz1 nd tg st ln pa rd of ar dp at_ rs fd pl tx ou wr op on dn v (nI 0, ou, wr)) _ := hP
                  have hD9 : va_D A (vX4_putPart cA m0 m1 m2 m3 m4 m5 m6 m7 m8 m9 cd row sz1 nd tg st ln pa rd of ar dp at_ rs fd pl tx ou wr op on dn v (nI 0, ou, wr)) := hD
                  have hq9 : pX4_putPart m0 m1 m2 m3 m4 m5 m6 m7 m8 m9 cd row sz1 nd tg st ln pa rd of ar dp at_ rs fd pl tx ou wr op on dn v ((-3)) (nI 0, ou, wr) := (by have e : ppC v on wr ou op = (-3) := (by unfold ppC; rw [if_neg hv0, if_neg (by omega), if_pos (by omega)]); exact ⟨⟨e.symm, Or.inr ⟨by rw [e]; decide, rfl, rfl⟩⟩, rfl⟩)
                  exact W.iret (v := (-3)) hx hb hr (fun t ht hW => ⟨⟨(-3), (nI 0, ou, wr), rfl, hq9, by rw [ht]; exact hP9, va_K.moved hW.alike hK, hD9⟩, hS.F ht⟩) hS.2.2 dX4_putPart_66
              · have c_27 := mt (shr0 rfl hv0).mpr c_27
                refine lv_iinc (v := (nI 5)) (lv' := [(2, .int (nI 5)), (0, .ref m0), (1, .int v)]) hx hb dX4_putPart_46 hl (k := 0) rfl (by decide) (by decide) rfl (fun ls hl => ?_)
                refine lv_goto (tgt := 32) hx hb dX4_putPart_49 (by decide) ?_
                refine lv_iload_n hx hb dX4_putPart_32 rfl (lv_at hl 0 rfl) ?_
                refine lv_iconst (v := nI 5) hx hb dX4_putPart_33 (by decide) ?_
                refine hl_icmp_ge (tgt := 52) hx hb dX4_putPart_34 (by decide) (by omega) (by omega) (fun c_33 => ?_) (fun c_33 => absurd c_33 (by decide))
                have hsz : partSz v = 5 := by unfold partSz; simp only [*, if_true, if_false]
                refine lv_aload_n hx hb dX4_putPart_52 rfl (lv_at hl 1 rfl) ?_
                refine va_get (D := (dC, dI)) (ci := 3) (v := .int (nI wr)) (C := RX4) (T := TX4) (N := 22) hx hb hts hinX4 hown hK hP 0 rfl rfl 18 (by decide) hf_112 (fun _ h9 => h9) rfl dX4_putPart_53 ?_
                refine lv_iload_n hx hb dX4_putPart_56 rfl (lv_at hl 0 rfl) ?_
                refine hl_iadd hx hb dX4_putPart_57 ?_
                refine lv_sipush (v := nI 300) hx hb dX4_putPart_58 (by decide) ?_
                refine hl_icmp_le (tgt := 67) hx hb dX4_putPart_61 (by decide) (by omega) (by omega) (fun c_34 => ?_) (fun c_34 => ?_)
                · refine lv_iload_n hx hb dX4_putPart_67 rfl (lv_at hl 0 rfl) ?_
                  refine lv_iconst (v := nI 1) hx hb dX4_putPart_68 (by decide) ?_
                  refine lv_isub hx hb dX4_putPart_69 ?_
                  refine hl_top (show _ = nI 4 by decide) ?_
                  refine lv_istore_n (lv' := [(3, .int (nI 4)), (2, .int (nI 5)), (0, .ref m0), (1, .int v)]) hx hb dX4_putPart_70 rfl hl (by decide) rfl (fun ls hl => ?_)
                  have lp_71 : ∀ (nf : Nat) (k : Nat) (ou1 : Nat → Nat) (wr1 : Nat), k < nf → (k ≤ partSz v) → (ou1 = pB ou wr (bpN v) (partSz v) (partSz v - k)) → (wr1 = wr + (partSz v - k)) → ∀ (H : Heap) (locs : List Loc) (ls : Array Slot), va_P (dC, dI) vwCl (wM cA m0 m1 m2 m3 m4 m5 m6 m7 m8 m9 (nI 0) row sz1 nd tg st ln pa rd of ar dp at_ rs fd pl tx ou1 wr1 op on dn) H → va_D A (wM cA m0 m1 m2 m3 m4 m5 m6 m7 m8 m9 (nI 0) row sz1 nd tg st ln pa rd of ar dp at_ rs fd pl tx ou1 wr1 op on dn) → va_S A s.heap H locs → lv_has ls 4 [(3, .int (mI k)), (2, .int (nI 5)), (0, .ref m0), (1, .int v)] → W p l e (headSpec wsX4_putPart ({ frames := 1, cells := 0, slots := 0, locals := 20 } : Room)).room s m ([.ref m0, .int v] : List Value).toArray below meth c H locs 0 0 (MQ below (qX4_putPart dC dI cA A m0 m1 m2 m3 m4 m5 m6 m7 m8 m9 cd row sz1 nd tg st ln pa rd of ar dp at_ rs fd pl tx ou wr op on dn v) ([.ref m0, .int v] : List Value).toArray s 0 0 A) (F0 m 71 ls []) := by
                    intro nf
                    induction nf with
                    | zero =>
                      intro k ou1 wr1 hm
                      exact absurd hm (Nat.not_lt_zero _)
                    | succ nf ih_71 =>
                      intro k ou1 wr1 hm hk hou1 hwr1 H locs ls hP hD hS hl
                      cases k with
                      | zero =>
                        refine lv_iload_n hx hb dX4_putPart_71 rfl (lv_at hl 0 rfl) ?_
                        refine lv_if_lt (tgt := 121) hx hb dX4_putPart_72 (by decide) (fun c_36 => ?_) (fun c_36 => absurd (by decide) c_36)
                        refine lv_iconst (v := nI 0) hx hb dX4_putPart_121 (by decide) ?_
                        have hP9 : va_P (dC, dI) vwCl (vX4_putPart cA m0 m1 m2 m3 m4 m5 m6 m7 m8 m9 cd row sz1 nd tg st ln pa rd of ar dp at_ rs fd pl tx ou wr op on dn v (nI 0, ou1, wr1)) _ := hP
                        have hD9 : va_D A (vX4_putPart cA m0 m1 m2 m3 m4 m5 m6 m7 m8 m9 cd row sz1 nd tg st ln pa rd of ar dp at_ rs fd pl tx ou wr op on dn v (nI 0, ou1, wr1)) := hD
                        have hq9 : pX4_putPart m0 m1 m2 m3 m4 m5 m6 m7 m8 m9 cd row sz1 nd tg st ln pa rd of ar dp at_ rs fd pl tx ou wr op on dn v (nI 0) (nI 0, ou1, wr1) := (by have e : ppC v on wr ou op = 0 := (by unfold ppC; rw [if_neg hv0, if_neg (by omega), if_neg (by omega)]); exact ⟨⟨e.symm, Or.inl ⟨e, by omega, hou1, by omega⟩⟩, rfl⟩)
                        exact W.iret (v := nI 0) hx hb hr (fun t ht hW => ⟨⟨nI 0, (nI 0, ou1, wr1), rfl, hq9, by rw [ht]; exact hP9, va_K.moved hW.alike hK, hD9⟩, hS.F ht⟩) hS.2.2 dX4_putPart_122
                      | succ k =>
                        have hl : lv_has ls 4 [(3, .int (nI k)), (2, .int (nI 5)), (0, .ref m0), (1, .int v)] := hl
                        refine lv_iload_n hx hb dX4_putPart_71 rfl (lv_at hl 0 rfl) ?_
                        refine hl_if_lt (tgt := 121) hx hb dX4_putPart_72 (by decide) (by omega) (fun c_37 => absurd c_37 (by omega)) (fun c_37 => ?_)
                        refine lv_aload_n hx hb dX4_putPart_75 rfl (lv_at hl 2 rfl) ?_
                        refine va_get (D := (dC, dI)) (ci := 3) (v := .ref m8) (C := RX4) (T := TX4) (N := 22) hx hb hts hinX4 hown hK hP 0 rfl rfl 17 (by decide) hf_35 (fun _ h9 => h9) rfl dX4_putPart_76 ?_
                        refine lv_aload_n hx hb dX4_putPart_79 rfl (lv_at hl 2 rfl) ?_
                        refine va_get (D := (dC, dI)) (ci := 3) (v := .int (nI wr1)) (C := RX4) (T := TX4) (N := 22) hx hb hts hinX4 hown hK hP 0 rfl rfl 18 (by decide) hf_112 (fun _ h9 => h9) rfl dX4_putPart_80 ?_
                        refine lv_iload_n hx hb dX4_putPart_83 rfl (lv_at hl 3 rfl) ?_
                        refine lv_bipush (v := nI 7) hx hb dX4_putPart_84 (by decide) ?_
                        refine lv_iload_n hx hb dX4_putPart_86 rfl (lv_at hl 0 rfl) ?_
                        refine hl_imul hx hb dX4_putPart_87 ?_
                        refine lv_ishr hx hb dX4_putPart_88 ?_
                        refine lv_bipush (v := nI 127) hx hb dX4_putPart_89 (by decide) ?_
                        refine lv_iand hx hb dX4_putPart_91 ?_
                        refine hl_top (b7N_eq v k) ?_
                        refine lv_iload_n hx hb dX4_putPart_92 rfl (lv_at hl 0 rfl) ?_
                        refine hl_if_le (tgt := 102) hx hb dX4_putPart_93 (by decide) (by omega) (fun c_38 => ?_) (fun c_38 => ?_)
                        · refine lv_iconst (v := nI 0) hx hb dX4_putPart_102 (by decide) ?_
                          refine hl_iadd hx hb dX4_putPart_103 ?_
                          refine hl_top (show nI (b7N v k + 0) = nI (bpN v k) by unfold bpN; rw [if_pos (by omega)]; rfl) ?_
                          refine hl_iast hx hb hK hP hD hS 8 0 rfl rfl (by omega) (by decide) dX4_putPart_104 (fun H locs hP hD hS => ?_)
                          have hP : va_P (dC, dI) vwCl (wM cA m0 m1 m2 m3 m4 m5 m6 m7 m8 m9 (nI 0) row sz1 nd tg st ln pa rd of ar dp at_ rs fd pl tx (va_up ou1 wr1 (bpN v k)) wr1 op on dn) H := hP
                          have hD : va_D A (wM cA m0 m1 m2 m3 m4 m5 m6 m7 m8 m9 (nI 0) row sz1 nd tg st ln pa rd of ar dp at_ rs fd pl tx (va_up ou1 wr1 (bpN v k)) wr1 op on dn) := hD
                          refine lv_aload_n hx hb dX4_putPart_105 rfl (lv_at hl 2 rfl) ?_
                          refine lv_dup hx hb dX4_putPart_106 rfl ?_
                          refine va_get (D := (dC, dI)) (ci := 3) (v := .int (nI wr1)) (C := RX4) (T := TX4) (N := 22) hx hb hts hinX4 hown hK hP 0 rfl rfl 18 (by decide) hf_112 (fun _ h9 => h9) rfl dX4_putPart_107 ?_
                          refine lv_iconst (v := nI 1) hx hb dX4_putPart_110 (by decide) ?_
                          refine hl_iadd hx hb dX4_putPart_111 ?_
                          refine va_put (D := (dC, dI)) (ci := 3) (v := .int (nI (wr1 + 1))) (ty := .int) (C := RX4) (T := TX4) (N := 22) hx hb hts hinX4 tyX4 tyX4_ok nmX4 hown hK hP hD hS 0 rfl rfl 18 (by decide) hf_112 (fun _ h9 => h9) rfl (by decide +kernel) rfl rfl (Nat.le_of_ble_eq_true rfl) dX4_putPart_112 (fun H locs hP hD hS => ?_)
                          have hP : va_P (dC, dI) vwCl (wM cA m0 m1 m2 m3 m4 m5 m6 m7 m8 m9 (nI 0) row sz1 nd tg st ln pa rd of ar dp at_ rs fd pl tx (va_up ou1 wr1 (bpN v k)) (wr1 + 1) op on dn) H := hP
                          have hD : va_D A (wM cA m0 m1 m2 m3 m4 m5 m6 m7 m8 m9 (nI 0) row sz1 nd tg st ln pa rd of ar dp at_ rs fd pl tx (va_up ou1 wr1 (bpN v k)) (wr1 + 1) op on dn) := hD
                          refine lv_iinc (v := (mI k)) (lv' := [(3, .int (mI k)), (2, .int (nI 5)), (0, .ref m0), (1, .int v)]) hx hb dX4_putPart_115 hl (k := 0) rfl (mI_dec k) (by decide) rfl (fun ls hl => ?_)
                          refine lv_goto (tgt := 71) hx hb dX4_putPart_118 (by decide) ?_
                          exact ih_71 k (va_up ou1 wr1 (bpN v k)) (wr1 + 1) (by omega) (by omega) (by rw [hou1, hwr1]; exact pB_step _ _ _ hk) (by omega) _ _ _ hP hD hS (lv_sub hl [0, 1, 2, 3] rfl)
                        · refine lv_sipush (v := nI 128) hx hb dX4_putPart_96 (by decide) ?_
                          refine lv_goto (tgt := 103) hx hb dX4_putPart_99 (by decide) ?_
                          refine hl_iadd hx hb dX4_putPart_103 ?_
                          refine hl_top (show nI (b7N v k + 128) = nI (bpN v k) by unfold bpN; rw [if_neg (by omega)]) ?_
                          refine hl_iast hx hb hK hP hD hS 8 0 rfl rfl (by omega) (by decide) dX4_putPart_104 (fun H locs hP hD hS => ?_)
                          have hP : va_P (dC, dI) vwCl (wM cA m0 m1 m2 m3 m4 m5 m6 m7 m8 m9 (nI 0) row sz1 nd tg st ln pa rd of ar dp at_ rs fd pl tx (va_up ou1 wr1 (bpN v k)) wr1 op on dn) H := hP
                          have hD : va_D A (wM cA m0 m1 m2 m3 m4 m5 m6 m7 m8 m9 (nI 0) row sz1 nd tg st ln pa rd of ar dp at_ rs fd pl tx (va_up ou1 wr1 (bpN v k)) wr1 op on dn) := hD
                          refine lv_aload_n hx hb dX4_putPart_105 rfl (lv_at hl 2 rfl) ?_
                          refine lv_dup hx hb dX4_putPart_106 rfl ?_
                          refine va_get (D := (dC, dI)) (ci := 3) (v := .int (nI wr1)) (C := RX4) (T := TX4) (N := 22) hx hb hts hinX4 hown hK hP 0 rfl rfl 18 (by decide) hf_112 (fun _ h9 => h9) rfl dX4_putPart_107 ?_
                          refine lv_iconst (v := nI 1) hx hb dX4_putPart_110 (by decide) ?_
                          refine hl_iadd hx hb dX4_putPart_111 ?_
                          refine va_put (D := (dC, dI)) (ci := 3) (v := .int (nI (wr1 + 1))) (ty := .int) (C := RX4) (T := TX4) (N := 22) hx hb hts hinX4 tyX4 tyX4_ok nmX4 hown hK hP hD hS 0 rfl rfl 18 (by decide) hf_112 (fun _ h9 => h9) rfl (by decide +kernel) rfl rfl (Nat.le_of_ble_eq_true rfl) dX4_putPart_112 (fun H locs hP hD hS => ?_)
                          have hP : va_P (dC, dI) vwCl (wM cA m0 m1 m2 m3 m4 m5 m6 m7 m8 m9 (nI 0) row sz1 nd tg st ln pa rd of ar dp at_ rs fd pl tx (va_up ou1 wr1 (bpN v k)) (wr1 + 1) op on dn) H := hP
                          have hD : va_D A (wM cA m0 m1 m2 m3 m4 m5 m6 m7 m8 m9 (nI 0) row sz1 nd tg st ln pa rd of ar dp at_ rs fd pl tx (va_up ou1 wr1 (bpN v k)) (wr1 + 1) op on dn) := hD
                          refine lv_iinc (v := (mI k)) (lv' := [(3, .int (mI k)), (2, .int (nI 5)), (0, .ref m0), (1, .int v)]) hx hb dX4_putPart_115 hl (k := 0) rfl (mI_dec k) (by decide) rfl (fun ls hl => ?_)
                          refine lv_goto (tgt := 71) hx hb dX4_putPart_118 (by decide) ?_
                          exact ih_71 k (va_up ou1 wr1 (bpN v k)) (wr1 + 1) (by omega) (by omega) (by rw [hou1, hwr1]; exact pB_step _ _ _ hk) (by omega) _ _ _ hP hD hS (lv_sub hl [0, 1, 2, 3] rfl)
                  exact lp_71 ((4 + 1) + 1) (4 + 1) ou wr (Nat.lt_succ_self _) (by omega) (by rw [Nat.sub_eq_zero_of_le (by omega)]; rfl) (by omega) _ _ _ hP hD hS (lv_sub hl [0, 1, 2, 3] rfl)
                · refine lv_bipush (v := (-3)) hx hb dX4_putPart_64 (by decide) ?_
                  have hP9 : va_P (dC, dI) vwCl (vX4_putPart cA m0 m1 m2 m3 m4 m5 m6 m7 m8 m9 cd row sz1 nd tg st ln pa rd of ar dp at_ rs fd pl tx ou wr op on dn v (nI 0, ou, wr)) _ := hP
                  have hD9 : va_D A (vX4_putPart cA m0 m1 m2 m3 m4 m5 m6 m7 m8 m9 cd row sz1 nd tg st ln pa rd of ar dp at_ rs fd pl tx ou wr op on dn v (nI 0, ou, wr)) := hD
                  have hq9 : pX4_putPart m0 m1 m2 m3 m4 m5 m6 m7 m8 m9 cd row sz1 nd tg st ln pa rd of ar dp at_ rs fd pl tx ou wr op on dn v ((-3)) (nI 0, ou, wr) := (by have e : ppC v on wr ou op = (-3) := (by unfold ppC; rw [if_neg hv0, if_neg (by omega), if_pos (by omega)]); exact ⟨⟨e.symm, Or.inr ⟨by rw [e]; decide, rfl, rfl⟩⟩, rfl⟩)
                  exact W.iret (v := (-3)) hx hb hr (fun t ht hW => ⟨⟨(-3), (nI 0, ou, wr), rfl, hq9, by rw [ht]; exact hP9, va_K.moved hW.alike hK, hD9⟩, hS.F ht⟩) hS.2.2 dX4_putPart_66
      · refine lv_bipush (v := (-2)) hx hb dX4_putPart_27 (by decide) ?_
        have hP9 : va_P (dC, dI) vwCl (vX4_putPart cA m0 m1 m2 m3 m4 m5 m6 m7 m8 m9 cd row sz1 nd tg st ln pa rd of ar dp at_ rs fd pl tx ou wr op on dn v (nI 0, ou, wr)) _ := hP
        have hD9 : va_D A (vX4_putPart cA m0 m1 m2 m3 m4 m5 m6 m7 m8 m9 cd row sz1 nd tg st ln pa rd of ar dp at_ rs fd pl tx ou wr op on dn v (nI 0, ou, wr)) := hD
        have hq9 : pX4_putPart m0 m1 m2 m3 m4 m5 m6 m7 m8 m9 cd row sz1 nd tg st ln pa rd of ar dp at_ rs fd pl tx ou wr op on dn v ((-2)) (nI 0, ou, wr) := (by have e : ppC v on wr ou op = (-2) := (by unfold ppC; rw [if_neg hv0, if_pos (by omega)]); exact ⟨⟨e.symm, Or.inr ⟨by rw [e]; decide, rfl, rfl⟩⟩, rfl⟩)
        exact W.iret (v := (-2)) hx hb hr (fun t ht hW => ⟨⟨(-2), (nI 0, ou, wr), rfl, hq9, by rw [ht]; exact hP9, va_K.moved hW.alike hK, hD9⟩, hS.F ht⟩) hS.2.2 dX4_putPart_29
  · refine lv_iconst (v := (-1)) hx hb dX4_putPart_9 (by decide) ?_
    have hP9 : va_P (dC, dI) vwCl (vX4_putPart cA m0 m1 m2 m3 m4 m5 m6 m7 m8 m9 cd row sz1 nd tg st ln pa rd of ar dp at_ rs fd pl tx ou wr op on dn v (nI 0, ou, wr)) _ := hP
    have hD9 : va_D A (vX4_putPart cA m0 m1 m2 m3 m4 m5 m6 m7 m8 m9 cd row sz1 nd tg st ln pa rd of ar dp at_ rs fd pl tx ou wr op on dn v (nI 0, ou, wr)) := hD
    have hq9 : pX4_putPart m0 m1 m2 m3 m4 m5 m6 m7 m8 m9 cd row sz1 nd tg st ln pa rd of ar dp at_ rs fd pl tx ou wr op on dn v ((-1)) (nI 0, ou, wr) := (by have e : ppC v on wr ou op = (-1) := (by unfold ppC; rw [if_pos (Int32.not_le.mp (by assumption))]); exact ⟨⟨e.symm, Or.inr ⟨by rw [e]; decide, rfl, rfl⟩⟩, rfl⟩)
    exact W.iret (v := (-1)) hx hb hr (fun t ht hW => ⟨⟨(-1), (nI 0, ou, wr), rfl, hq9, by rw [ht]; exact hP9, va_K.moved hW.alike hK, hD9⟩, hS.F ht⟩) hS.2.2 dX4_putPart_10
