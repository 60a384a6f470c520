abbrev pX4_feed (m0 : Nat) (m1 : Nat) (m2 : Nat) (m3 : Nat) (m4 : Nat) (m5 : Nat) (m6 : Nat) (m7 : Nat) (m8 : Nat) (m9 : Nat) (cd : Int32) (row : Nat → Nat) (sz1 : Nat) (nd : Nat) (tg : Nat → Nat) (st : Nat → Nat) (ln : Nat → Nat) (pa : Nat → Int32) (rd : Nat) (of : Int32) (ar : Nat → Nat) (dp : Nat) (at_ : Nat) (rs : Int32) (fd : Nat) (pl : Int32) (tx : Nat → Nat) (ou : Nat → Nat) (wr : Nat) (op : Nat → Nat) (on : Nat) (dn : Nat) (b : Int32) : Int32 → Int32 × (Nat → Nat) × Nat × Nat → Prop := fun (r : Int32) (u : Int32 × (Nat → Nat) × Nat × Nat) => match u with | (cd2, row2, sz2, rd2) => ((¬ isB b ∧ r = -1 ∧ row2 = row ∧ sz2 = sz1 ∧ rd2 = rd) ∨ (isB b ∧ sz1 = 300 ∧ r = -3 ∧ row2 = row ∧ sz2 = sz1 ∧ rd2 = rd) ∨ (isB b ∧ sz1 < 300 ∧ r = 0 ∧ row2 = va_up row sz1 b.toNatClampNeg ∧ sz2 = sz1 + 1 ∧ rd2 = 0)) ∧ cd2 = nI 0
abbrev vX4_feed (cA : ClassId) (m0 : Nat) (m1 : Nat) (m2 : Nat) (m3 : Nat) (m4 : Nat) (m5 : Nat) (m6 : Nat) (m7 : Nat) (m8 : Nat) (m9 : Nat) (cd : Int32) (row : Nat → Nat) (sz1 : Nat) (nd : Nat) (tg : Nat → Nat) (st : Nat → Nat) (ln : Nat → Nat) (pa : Nat → Int32) (rd : Nat) (of : Int32) (ar : Nat → Nat) (dp : Nat) (at_ : Nat) (rs : Int32) (fd : Nat) (pl : Int32) (tx : Nat → Nat) (ou : Nat → Nat) (wr : Nat) (op : Nat → Nat) (on : Nat) (dn : Nat) (b : Int32) : Int32 × (Nat → Nat) × Nat × Nat → va_W := fun (u : Int32 × (Nat → Nat) × Nat × Nat) => match u with | (cd2, row2, sz2, rd2) => wM cA m0 m1 m2 m3 m4 m5 m6 m7 m8 m9 cd2 row2 sz2 nd tg st ln pa rd2 of ar dp at_ rs fd pl tx ou wr op on dn
abbrev qX4_feed (dC : Nat → ClassId) (dI : Nat → Nat → Nat) (cA : ClassId) (A : Nat → Prop) (m0 : Nat) (m1 : Nat) (m2 : Nat) (m3 : Nat) (m4 : Nat) (m5 : Nat) (m6 : Nat) (m7 : Nat) (m8 : Nat) (m9 : Nat) (cd : Int32) (row : Nat → Nat) (sz1 : Nat) (nd : Nat) (tg : Nat → Nat) (st : Nat → Nat) (ln : Nat → Nat) (pa : Nat → Int32) (rd : Nat) (of : Int32) (ar : Nat → Nat) (dp : Nat) (at_ : Nat) (rs : Int32) (fd : Nat) (pl : Int32) (tx : Nat → Nat) (ou : Nat → Nat) (wr : Nat) (op : Nat → Nat) (on : Nat) (dn : Nat) (b : Int32) : Array Value → State → Outcome → State → Prop := va_Qi (pX4_feed m0 m1 m2 m3 m4 m5 m6 m7 m8 m9 cd row sz1 nd tg st ln pa rd of ar dp at_ rs fd pl tx ou wr op on dn b) (fun u => cAft dC dI cA A (vX4_feed cA m0 m1 m2 m3 m4 m5 m6 m7 m8 m9 cd row sz1 nd tg st ln pa rd of ar dp at_ rs fd pl tx ou wr op on dn b u)) A
set_option maxHeartbeats 4000000 in
set_option maxRecDepth 100000 in
theorem k_X4_feed (l : Launch) (dC : Nat → ClassId) (dI : Nat → Nat → Nat) (cA : ClassId) (m0 : Nat) (m1 : Nat) (m2 : Nat) (m3 : Nat) (m4 : Nat) (m5 : Nat) (m6 : Nat) (m7 : Nat) (m8 : Nat) (m9 : Nat) (cd : Int32) (row : Nat → Nat) (sz1 : Nat) (nd : Nat) (tg : Nat → Nat) (st : Nat → Nat) (ln : Nat → Nat) (pa : Nat → Int32) (rd : Nat) (of : Int32) (ar : Nat → Nat) (dp : Nat) (at_ : Nat) (rs : Int32) (fd : Nat) (pl : Int32) (tx : Nat → Nat) (ou : Nat → Nat) (wr : Nat) (op : Nat → Nat) (on : Nat) (dn : Nat) (b : Int32) (sz : Nat) (hsz : sz1 ≤ 300) : Met l yX4_feed wsX4_feed ({ frames := 1, cells := 0, slots := 0, locals := 20 } : Room) (va_Pc [.ref m0, .int b] (cPre dC dI cA (wM cA m0 m1 m2 m3 m4 m5 m6 m7 m8 m9 cd row sz1 nd tg st ln pa rd of ar dp at_ rs fd pl tx ou wr op on dn) sz)) (qX4_feed dC dI cA (va_A (wM cA m0 m1 m2 m3 m4 m5 m6 m7 m8 m9 cd row sz1 nd tg st ln pa rd of ar dp at_ rs fd pl tx ou wr op on dn) sz) m0 m1 m2 m3 m4 m5 m6 m7 m8 m9 cd row sz1 nd tg st ln pa rd of ar dp at_ rs fd pl tx ou wr op on dn b) 0 0 (va_A (wM cA m0 m1 m2 m3 m4 m5 m6 m7 m8 m9 cd row sz1 nd tg st ln pa rd of ar dp at_ rs fd pl tx ou wr op on dn) sz) := by
  refine Met.ofW (cc := cX4_feed) (maxL := 2) (ret := (some .int)) (by decide) rfl ?_
  intro p e s m args below meth c s₁ B hml hv
  obtain ⟨rfl, hsz, hP, hK, hD0⟩ := hv
  have hx := B.exec
  have hb := B.bytes
  have hr := B.returns
  have hts := atoms_spec (ws := wsX4_feed) B.pre
  have hown : s.vm.findClass RX4 = some m.cls := findClass_of_methodNamed B.named
  have hlocks := B.notSynchronized
  subst hsz
  have hD := hD0.self (sz := s.heap.size)
  generalize hAe : va_A (wM cA m0 m1 m2 m3 m4 m5 m6 m7 m8 m9 cd row sz1 nd tg st ln pa rd of ar dp at_ rs fd pl tx ou wr op on dn) s.heap.size = A at hD ⊢
  have hA : ∀ q : Nat, s.heap.size ≤ q → A q := fun q h => by rw [← hAe]; exact Or.inr h
  have hS : va_S A s.heap s.heap [] := va_S.rf
  have hl := lv_entry ([.ref m0, .int b]) (n := 2) (Nat.le_of_ble_eq_true rfl)
  rw [lg_entry_eq]
  generalize (lg_sl ([.ref m0, .int b]) ++ List.replicate (2 - (lg_sl ([.ref m0, .int b])).length) Slot.unset).toArray = ls at hl ⊢
  have hl : lv_has ls 2 [(0, .ref m0), (1, .int b)] := hl
  have hinX4 : ∀ w ∈ wsX40, w ∈ wsX4_feed := fun _ h => List.mem_cons_of_mem _ (List.mem_append_right _ h)
  have hf_7 := hts (.fieldLink RX4 7 "DerDeskModel" "row" "[I") (by decide +kernel)
  have hf_41 := hts (.fieldLink RX4 41 "DerDeskModel" "code" "I") (by decide +kernel)
  have hf_48 := hts (.fieldLink RX4 48 "DerDeskModel" "size" "I") (by decide +kernel)
  have hf_51 := hts (.fieldLink RX4 51 "DerDeskModel" "read" "Z") (by decide +kernel)
  have hP : va_P (dC, dI) vwCl (wM cA m0 m1 m2 m3 m4 m5 m6 m7 m8 m9 cd row sz1 nd tg st ln pa rd of ar dp at_ rs fd pl tx ou wr op on dn) s.heap := hP
  refine lv_aload_n hx hb dX4_feed_0 rfl (lv_at hl 0 rfl) ?_
  refine lv_iconst (v := nI 0) hx hb dX4_feed_1 (by decide) ?_
  refine va_put (D := (dC, dI)) (ci := 3) (v := .int (nI 0)) (ty := .int) (C := RX4) (T := TX4) (N := 22) hx hb hts hinX4 tyX4 tyX4_ok nmX4 hown hK hP hD hS 0 rfl rfl 0 (by decide) hf_41 (fun _ h9 => h9) rfl (by decide +kernel) rfl rfl (Nat.le_of_ble_eq_true rfl) dX4_feed_2 (fun H locs hP hD hS => ?_)
  have hP : va_P (dC, dI) vwCl (wM cA m0 m1 m2 m3 m4 m5 m6 m7 m8 m9 (nI 0) row sz1 nd tg st ln pa rd of ar dp at_ rs fd pl tx ou wr op on dn) H := hP
  have hD : va_D A (wM cA m0 m1 m2 m3 m4 m5 m6 m7 m8 m9 (nI 0) row sz1 nd tg st ln pa rd of ar dp at_ rs fd pl tx ou wr op on dn) := hD
  refine lv_iload_n hx hb dX4_feed_5 rfl (lv_at hl 1 rfl) ?_
  refine cl_Si (As := [.int b]) (rest := []) (wr := [(m0, .inr (3, [.int (nI 0), .ref m1, .int (nI sz1), .int (nI nd), .ref m2, .ref m3, .ref m4, .ref m5, .int (nI rd), .int of, .ref m6, .int (nI dp), .int (nI at_), .int rs, .int (nI fd), .int pl, .ref m7, .ref m8, .int (nI wr), .ref m9, .int (nI on), .int (nI dn)])), (m1, .inl (cA, 300, .inl (nA row))), (m2, .inl (cA, 64, .inl (nA tg))), (m3, .inl (cA, 64, .inl (nA st))), (m4, .inl (cA, 64, .inl (nA ln))), (m5, .inl (cA, 64, .inl (pa))), (m6, .inl (cA, 17, .inl (nA ar))), (m7, .inl (cA, 300, .inl (nA tx))), (m8, .inl (cA, 300, .inl (nA ou))), (m9, .inl (cA, 16, .inl (nA op)))]) ⟨hx, hb, hml, hown, hts⟩ (k_X4_isByte l dC dI cA b _ ) (va_cwS 1 hts gX4_feed_X4_isByte rfl rfl rfl (by decide +kernel) ⟨Nat.le_of_ble_eq_true rfl, Nat.le_of_ble_eq_true rfl⟩) hK hP hD hS hA [] [0, 1, 2, 3, 4, 5, 6, 7, 8, 9] rfl rfl (by decide) (by decide) (by decide) rfl hl.1 rfl (Nat.le_of_ble_eq_true rfl) dX4_feed_6 ⟨Nat.le_of_ble_eq_true rfl, Nat.le_of_ble_eq_true rfl⟩ (fun r_1 u_1 H locs hw_1 hP hD hS => ?_)
  have hP : va_P (dC, dI) vwCl (wM cA m0 m1 m2 m3 m4 m5 m6 m7 m8 m9 (nI 0) row sz1 nd tg st ln pa rd of ar dp at_ rs fd pl tx ou wr op on dn) H := hP
  have hD : va_D A (wM cA m0 m1 m2 m3 m4 m5 m6 m7 m8 m9 (nI 0) row sz1 nd tg st ln pa rd of ar dp at_ rs fd pl tx ou wr op on dn) := hD
  have hw_1 : r_1 = if isB b then 1 else 0 := hw_1
  have hw_1 := hw_1.symm
  subst hw_1
  refine hl_ifb_ne (tgt := 14) hx hb dX4_feed_9 (by decide) (fun c_2 => ?_) (fun c_2 => ?_)
  · refine lv_aload_n hx hb dX4_feed_14 rfl (lv_at hl 0 rfl) ?_
    refine va_get (D := (dC, dI)) (ci := 3) (v := .int (nI sz1)) (C := RX4) (T := TX4) (N := 22) hx hb hts hinX4 hown hK hP 0 rfl rfl 2 (by decide) hf_48 (fun _ h9 => h9) rfl dX4_feed_15 ?_
    refine lv_sipush (v := nI 300) hx hb dX4_feed_18 (by decide) ?_
    refine hl_icmp_ne (tgt := 27) hx hb dX4_feed_21 (by decide) (by omega) (by omega) (fun c_3 => ?_) (fun c_3 => ?_)
    · refine lv_aload_n hx hb dX4_feed_27 rfl (lv_at hl 0 rfl) ?_
      refine va_get (D := (dC, dI)) (ci := 3) (v := .ref m1) (C := RX4) (T := TX4) (N := 22) hx hb hts hinX4 hown hK hP 0 rfl rfl 1 (by decide) hf_7 (fun _ h9 => h9) rfl dX4_feed_28 ?_
      refine lv_aload_n hx hb dX4_feed_31 rfl (lv_at hl 0 rfl) ?_
      refine va_get (D := (dC, dI)) (ci := 3) (v := .int (nI sz1)) (C := RX4) (T := TX4) (N := 22) hx hb hts hinX4 hown hK hP 0 rfl rfl 2 (by decide) hf_48 (fun _ h9 => h9) rfl dX4_feed_32 ?_
      refine lv_iload_n hx hb dX4_feed_35 rfl (lv_at hl 1 rfl) ?_
      have hq := ‹isB b›
      have hbl := cl_le hq.1 (by decide) hq.2
      refine hl_top (cl_of hq.1) ?_
      refine hl_iast hx hb hK hP hD hS 1 0 rfl rfl (by omega) (by decide) dX4_feed_36 (fun H locs hP hD hS => ?_)
      have hP : va_P (dC, dI) vwCl (wM cA m0 m1 m2 m3 m4 m5 m6 m7 m8 m9 (nI 0) (va_up row sz1 b.toNatClampNeg) sz1 nd tg st ln pa rd of ar dp at_ rs fd pl tx ou wr op on dn) H := hP
      have hD : va_D A (wM cA m0 m1 m2 m3 m4 m5 m6 m7 m8 m9 (nI 0) (va_up row sz1 b.toNatClampNeg) sz1 nd tg st ln pa rd of ar dp at_ rs fd pl tx ou wr op on dn) := hD
      refine lv_aload_n hx hb dX4_feed_37 rfl (lv_at hl 0 rfl) ?_
      refine lv_dup hx hb dX4_feed_38 rfl ?_
      refine va_get (D := (dC, dI)) (ci := 3) (v := .int (nI sz1)) (C := RX4) (T := TX4) (N := 22) hx hb hts hinX4 hown hK hP 0 rfl rfl 2 (by decide) hf_48 (fun _ h9 => h9) rfl dX4_feed_39 ?_
      refine lv_iconst (v := nI 1) hx hb dX4_feed_42 (by decide) ?_
      refine hl_iadd hx hb dX4_feed_43 ?_
      refine va_put (D := (dC, dI)) (ci := 3) (v := .int (nI (sz1 + 1))) (ty := .int) (C := RX4) (T := TX4) (N := 22) hx hb hts hinX4 tyX4 tyX4_ok nmX4 hown hK hP hD hS 0 rfl rfl 2 (by decide) hf_48 (fun _ h9 => h9) rfl (by decide +kernel) rfl rfl (Nat.le_of_ble_eq_true rfl) dX4_feed_44 (fun H locs hP hD hS => ?_)
      have hP : va_P (dC, dI) vwCl (wM cA m0 m1 m2 m3 m4 m5 m6 m7 m8 m9 (nI 0) (va_up row sz1 b.toNatClampNeg) (sz1 + 1) nd tg st ln pa rd of ar dp at_ rs fd pl tx ou wr op on dn) H := hP
      have hD : va_D A (wM cA m0 m1 m2 m3 m4 m5 m6 m7 m8 m9 (nI 0) (va_up row sz1 b.toNatClampNeg) (sz1 + 1) nd tg st ln pa rd of ar dp at_ rs fd pl tx ou wr op on dn) := hD
      refine lv_aload_n hx hb dX4_feed_47 rfl (lv_at hl 0 rfl) ?_
      refine lv_iconst (v := nI 0) hx hb dX4_feed_48 (by decide) ?_
      refine va_put (D := (dC, dI)) (ci := 3) (v := .int (nI 0)) (ty := .boolean) (C := RX4) (T := TX4) (N := 22) hx hb hts hinX4 tyX4 tyX4_ok nmX4 hown hK hP hD hS 0 rfl rfl 8 (by decide) hf_51 (fun _ h9 => h9) rfl (by decide +kernel) rfl rfl (Nat.le_of_ble_eq_true rfl) dX4_feed_49 (fun H locs hP hD hS => ?_)
      have hP : va_P (dC, dI) vwCl (wM cA m0 m1 m2 m3 m4 m5 m6 m7 m8 m9 (nI 0) (va_up row sz1 b.toNatClampNeg) (sz1 + 1) nd tg st ln pa 0 of ar dp at_ rs fd pl tx ou wr op on dn) H := hP
      have hD : va_D A (wM cA m0 m1 m2 m3 m4 m5 m6 m7 m8 m9 (nI 0) (va_up row sz1 b.toNatClampNeg) (sz1 + 1) nd tg st ln pa 0 of ar dp at_ rs fd pl tx ou wr op on dn) := hD
      refine lv_iconst (v := nI 0) hx hb dX4_feed_52 (by decide) ?_
      have hP9 : va_P (dC, dI) vwCl (vX4_feed cA m0 m1 m2 m3 m4 m5 m6 m7 m8 m9 cd row sz1 nd tg st ln pa rd of ar dp at_ rs fd pl tx ou wr op on dn b (nI 0, va_up row sz1 b.toNatClampNeg, sz1 + 1, 0)) _ := hP
      have hD9 : va_D A (vX4_feed cA m0 m1 m2 m3 m4 m5 m6 m7 m8 m9 cd row sz1 nd tg st ln pa rd of ar dp at_ rs fd pl tx ou wr op on dn b (nI 0, va_up row sz1 b.toNatClampNeg, sz1 + 1, 0)) := hD
      have hq9 : pX4_feed m0 m1 m2 m3 m4 m5 m6 m7 m8 m9 cd row sz1 nd tg st ln pa rd of ar dp at_ rs fd pl tx ou wr op on dn b (nI 0) (nI 0, va_up row sz1 b.toNatClampNeg, sz1 + 1, 0) := ⟨Or.inr (Or.inr ⟨by assumption, by omega, rfl, rfl, rfl, rfl⟩), rfl⟩
      exact W.iret (v := nI 0) hx hb hr (fun t ht hW => ⟨⟨nI 0, (nI 0, va_up row sz1 b.toNatClampNeg, sz1 + 1, 0), rfl, hq9, by rw [ht]; exact hP9, va_K.moved hW.alike hK, hD9⟩, hS.F ht⟩) hS.2.2 dX4_feed_53
    · refine lv_bipush (v := (-3)) hx hb dX4_feed_24 (by decide) ?_
      have hP9 : va_P (dC, dI) vwCl (vX4_feed cA m0 m1 m2 m3 m4 m5 m6 m7 m8 m9 cd row sz1 nd tg st ln pa rd of ar dp at_ rs fd pl tx ou wr op on dn b (nI 0, row, sz1, rd)) _ := hP
      have hD9 : va_D A (vX4_feed cA m0 m1 m2 m3 m4 m5 m6 m7 m8 m9 cd row sz1 nd tg st ln pa rd of ar dp at_ rs fd pl tx ou wr op on dn b (nI 0, row, sz1, rd)) := hD
      have hq9 : pX4_feed m0 m1 m2 m3 m4 m5 m6 m7 m8 m9 cd row sz1 nd tg st ln pa rd of ar dp at_ rs fd pl tx ou wr op on dn b ((-3)) (nI 0, row, sz1, rd) := ⟨Or.inr (Or.inl ⟨by assumption, by omega, rfl, rfl, rfl, rfl⟩), rfl⟩
      exact W.iret (v := (-3)) hx hb hr (fun t ht hW => ⟨⟨(-3), (nI 0, row, sz1, rd), rfl, hq9, by rw [ht]; exact hP9, va_K.moved hW.alike hK, hD9⟩, hS.F ht⟩) hS.2.2 dX4_feed_26
  · refine lv_iconst (v := (-1)) hx hb dX4_feed_12 (by decide) ?_
    have hP9 : va_P (dC, dI) vwCl (vX4_feed cA m0 m1 m2 m3 m4 m5 m6 m7 m8 m9 cd row sz1 nd tg st ln pa rd of ar dp at_ rs fd pl tx ou wr op on dn b (nI 0, row, sz1, rd)) _ := hP
    have hD9 : va_D A (vX4_feed cA m0 m1 m2 m3 m4 m5 m6 m7 m8 m9 cd row sz1 nd tg st ln pa rd of ar dp at_ rs fd pl tx ou wr op on dn b (nI 0, row, sz1, rd)) := hD
    have hq9 : pX4_feed m0 m1 m2 m3 m4 m5 m6 m7 m8 m9 cd row sz1 nd tg st ln pa rd of ar dp at_ rs fd pl tx ou wr op on dn b ((-1)) (nI 0, row, sz1, rd) := ⟨Or.inl ⟨by assumption, rfl, rfl, rfl, rfl⟩, rfl⟩
    exact W.iret (v := (-1)) hx hb hr (fun t ht hW => ⟨⟨(-1), (nI 0, row, sz1, rd), rfl, hq9, by rw [ht]; exact hP9, va_K.moved hW.alike hK, hD9⟩, hS.F ht⟩) hS.2.2 dX4_feed_13
abbrev pX4_wipe (m0 : Nat) (m1 : Nat) (m2 : Nat) (m3 : Nat) (m4 : Nat) (m5 : Nat) (m6 : Nat) (m7 : Nat) (m8 : Nat) (m9 : Nat) (cd : Int32) (row : Nat → Nat) (sz1 : Nat) (nd : Nat) (tg : Nat → Nat) (st : Nat → Nat) (ln : Nat → Nat) (pa : Nat → Int32) (rd : Nat) (of : Int32) (ar : Nat → Nat) (dp : Nat) (at_ : Nat) (rs : Int32) (fd : Nat) (pl : Int32) (tx : Nat → Nat) (ou : Nat → Nat) (wr : Nat) (op : Nat → Nat) (on : Nat) (dn : Nat) : Int32 × Nat × Nat → Prop := fun (u : Int32 × Nat × Nat) => match u with | (cd2, sz2, rd2) => cd2 = nI 0 ∧ sz2 = 0 ∧ rd2 = 0
abbrev vX4_wipe (cA : ClassId) (m0 : Nat) (m1 : Nat) (m2 : Nat) (m3 : Nat) (m4 : Nat) (m5 : Nat) (m6 : Nat) (m7 : Nat) (m8 : Nat) (m9 : Nat) (cd : Int32) (row : Nat → Nat) (sz1 : Nat) (nd : Nat) (tg : Nat → Nat) (st : Nat → Nat) (ln : Nat → Nat) (pa : Nat → Int32) (rd : Nat) (of : Int32) (ar : Nat → Nat) (dp : Nat) (at_ : Nat) (rs : Int32) (fd : Nat) (pl : Int32) (tx : Nat → Nat) (ou : Nat → Nat) (wr : Nat) (op : Nat → Nat) (on : Nat) (dn : Nat) : Int32 × Nat × Nat → va_W := fun (u : Int32 × Nat × Nat) => match u with | (cd2, sz2, rd2) => wM cA m0 m1 m2 m3 m4 m5 m6 m7 m8 m9 cd2 row sz2 nd tg st ln pa rd2 of ar dp at_ rs fd pl tx ou wr op on dn
abbrev qX4_wipe (dC : Nat → ClassId) (dI : Nat → Nat → Nat) (cA : ClassId) (A : Nat → Prop) (m0 : Nat) (m1 : Nat) (m2 : Nat) (m3 : Nat) (m4 : Nat) (m5 : Nat) (m6 : Nat) (m7 : Nat) (m8 : Nat) (m9 : Nat) (cd : Int32) (row : Nat → Nat) (sz1 : Nat) (nd : Nat) (tg : Nat → Nat) (st : Nat → Nat) (ln : Nat → Nat) (pa : Nat → Int32) (rd : Nat) (of : Int32) (ar : Nat → Nat) (dp : Nat) (at_ : Nat) (rs : Int32) (fd : Nat) (pl : Int32) (tx : Nat → Nat) (ou : Nat → Nat) (wr : Nat) (op : Nat → Nat) (on : Nat) (dn : Nat) : Array Value → State → Outcome → State → Prop := va_Qv (pX4_wipe m0 m1 m2 m3 m4 m5 m6 m7 m8 m9 cd row sz1 nd tg st ln pa rd of ar dp at_ rs fd pl tx ou wr op on dn) (fun u => cAft dC dI cA A (vX4_wipe cA m0 m1 m2 m3 m4 m5 m6 m7 m8 m9 cd row sz1 nd tg st ln pa rd of ar dp at_ rs fd pl tx ou wr op on dn u)) A
set_option maxHeartbeats 4000000 in
set_option maxRecDepth 100000 in
theorem k_X4_wipe (l : Launch) (dC : Nat → ClassId) (dI : Nat → Nat → Nat) (cA : ClassId) (m0 : Nat) (m1 : Nat) (m2 : Nat) (m3 : Nat) (m4 : Nat) (m5 : Nat) (m6 : Nat) (m7 : Nat) (m8 : Nat) (m9 : Nat) (cd : Int32) (row : Nat → Nat) (sz1 : Nat) (nd : Nat) (tg : Nat → Nat) (st : Nat → Nat) (ln : Nat → Nat) (pa : Nat → Int32) (rd : Nat) (of : Int32) (ar : Nat → Nat) (dp : Nat) (at_ : Nat) (rs : Int32) (fd : Nat) (pl : Int32) (tx : Nat → Nat) (ou : Nat → Nat) (wr : Nat) (op : Nat → Nat) (on : Nat) (dn : Nat) (sz : Nat)  : Met l yX4_wipe wsX4_wipe ({ frames := 0, cells := 0, slots := 0, locals := 0 } : Room) (va_Pc [.ref m0] (cPre dC dI cA (wM cA m0 m1 m2 m3 m4 m5 m6 m7 m8 m9 cd row sz1 nd tg st ln pa rd of ar dp at_ rs fd pl tx ou wr op on dn) sz)) (qX4_wipe dC dI cA (va_A (wM cA m0 m1 m2 m3 m4 m5 m6 m7 m8 m9 cd row sz1 nd tg st ln pa rd of ar dp at_ rs fd pl tx ou wr op on dn) sz) m0 m1 m2 m3 m4 m5 m6 m7 m8 m9 cd row sz1 nd tg st ln pa rd of ar dp at_ rs fd pl tx ou wr op on dn) 0 0 (va_A (wM cA m0 m1 m2 m3 m4 m5 m6 m7 m8 m9 cd row sz1 nd tg st ln pa rd of ar dp at_ rs fd pl tx ou wr op on dn) sz) := by
  refine Met.ofW (cc := cX4_wipe) (maxL := 1) (ret := none) (by decide) rfl ?_
  intro p e s m args below meth c s₁ B hml hv
  obtain ⟨rfl, hsz, hP, hK, hD0⟩ := hv
  have hx := B.exec
  have hb := B.bytes
  have hr := B.returns
  have hts := atoms_spec (ws := wsX4_wipe) B.pre
  have hown : s.vm.findClass RX4 = some m.cls := findClass_of_methodNamed B.named
  have hlocks := B.notSynchronized
  subst hsz
  have hD := hD0.self (sz := s.heap.size)
  generalize hAe : va_A (wM cA m0 m1 m2 m3 m4 m5 m6 m7 m8 m9 cd row sz1 nd tg st ln pa rd of ar dp at_ rs fd pl tx ou wr op on dn) s.heap.size = A at hD ⊢
  have hA : ∀ q : Nat, s.heap.size ≤ q → A q := fun q h => by rw [← hAe]; exact Or.inr h
  have hS : va_S A s.heap s.heap [] := va_S.rf
  have hl := lv_entry ([.ref m0]) (n := 1) (Nat.le_of_ble_eq_true rfl)
  rw [lg_entry_eq]
  generalize (lg_sl ([.ref m0]) ++ List.replicate (1 - (lg_sl ([.ref m0])).length) Slot.unset).toArray = ls at hl ⊢
  have hl : lv_has ls 1 [(0, .ref m0)] := hl
  have hinX4 : ∀ w ∈ wsX40, w ∈ wsX4_wipe := fun _ h => List.mem_cons_of_mem _ (List.mem_append_right _ h)
  have hf_41 := hts (.fieldLink RX4 41 "DerDeskModel" "code" "I") (by decide +kernel)
  have hf_48 := hts (.fieldLink RX4 48 "DerDeskModel" "size" "I") (by decide +kernel)
  have hf_51 := hts (.fieldLink RX4 51 "DerDeskModel" "read" "Z") (by decide +kernel)
  have hP : va_P (dC, dI) vwCl (wM cA m0 m1 m2 m3 m4 m5 m6 m7 m8 m9 cd row sz1 nd tg st ln pa rd of ar dp at_ rs fd pl tx ou wr op on dn) s.heap := hP
  refine lv_aload_n hx hb dX4_wipe_0 rfl (lv_at hl 0 rfl) ?_
  refine lv_iconst (v := nI 0) hx hb dX4_wipe_1 (by decide) ?_
  refine va_put (D := (dC, dI)) (ci := 3) (v := .int (nI 0)) (ty := .int) (C := RX4) (T := TX4) (N := 22) hx hb hts hinX4 tyX4 tyX4_ok nmX4 hown hK hP hD hS 0 rfl rfl 0 (by decide) hf_41 (fun _ h9 => h9) rfl (by decide +kernel) rfl rfl (Nat.le_of_ble_eq_true rfl) dX4_wipe_2 (fun H locs hP hD hS => ?_)
  have hP : va_P (dC, dI) vwCl (wM cA m0 m1 m2 m3 m4 m5 m6 m7 m8 m9 (nI 0) row sz1 nd tg st ln pa rd of ar dp at_ rs fd pl tx ou wr op on dn) H := hP
  have hD : va_D A (wM cA m0 m1 m2 m3 m4 m5 m6 m7 m8 m9 (nI 0) row sz1 nd tg st ln pa rd of ar dp at_ rs fd pl tx ou wr op on dn) := hD
  refine lv_aload_n hx hb dX4_wipe_5 rfl (lv_at hl 0 rfl) ?_
  refine lv_iconst (v := nI 0) hx hb dX4_wipe_6 (by decide) ?_
  refine va_put (D := (dC, dI)) (ci := 3) (v := .int (nI 0)) (ty := .int) (C := RX4) (T := TX4) (N := 22) hx hb hts hinX4 tyX4 tyX4_ok nmX4 hown hK hP hD hS 0 rfl rfl 2 (by decide) hf_48 (fun _ h9 => h9) rfl (by decide +kernel) rfl rfl (Nat.le_of_ble_eq_true rfl) dX4_wipe_7 (fun H locs hP hD hS => ?_)
  have hP : va_P (dC, dI) vwCl (wM cA m0 m1 m2 m3 m4 m5 m6 m7 m8 m9 (nI 0) row 0 nd tg st ln pa rd of ar dp at_ rs fd pl tx ou wr op on dn) H := hP
  have hD : va_D A (wM cA m0 m1 m2 m3 m4 m5 m6 m7 m8 m9 (nI 0) row 0 nd tg st ln pa rd of ar dp at_ rs fd pl tx ou wr op on dn) := hD
  refine lv_aload_n hx hb dX4_wipe_10 rfl (lv_at hl 0 rfl) ?_
  refine lv_iconst (v := nI 0) hx hb dX4_wipe_11 (by decide) ?_
  refine va_put (D := (dC, dI)) (ci := 3) (v := .int (nI 0)) (ty := .boolean) (C := RX4) (T := TX4) (N := 22) hx hb hts hinX4 tyX4 tyX4_ok nmX4 hown hK hP hD hS 0 rfl rfl 8 (by decide) hf_51 (fun _ h9 => h9) rfl (by decide +kernel) rfl rfl (Nat.le_of_ble_eq_true rfl) dX4_wipe_12 (fun H locs hP hD hS => ?_)
  have hP : va_P (dC, dI) vwCl (wM cA m0 m1 m2 m3 m4 m5 m6 m7 m8 m9 (nI 0) row 0 nd tg st ln pa 0 of ar dp at_ rs fd pl tx ou wr op on dn) H := hP
  have hD : va_D A (wM cA m0 m1 m2 m3 m4 m5 m6 m7 m8 m9 (nI 0) row 0 nd tg st ln pa 0 of ar dp at_ rs fd pl tx ou wr op on dn) := hD
  have hP9 : va_P (dC, dI) vwCl (vX4_wipe cA m0 m1 m2 m3 m4 m5 m6 m7 m8 m9 cd row sz1 nd tg st ln pa rd of ar dp at_ rs fd pl tx ou wr op on dn (nI 0, 0, 0)) _ := hP
  have hD9 : va_D A (vX4_wipe cA m0 m1 m2 m3 m4 m5 m6 m7 m8 m9 cd row sz1 nd tg st ln pa rd of ar dp at_ rs fd pl tx ou wr op on dn (nI 0, 0, 0)) := hD
  have hq9 : pX4_wipe m0 m1 m2 m3 m4 m5 m6 m7 m8 m9 cd row sz1 nd tg st ln pa rd of ar dp at_ rs fd pl tx ou wr op on dn (nI 0, 0, 0) := ⟨rfl, rfl, rfl⟩
  exact W.vret hx hb hr (fun t ht hW => ⟨⟨(nI 0, 0, 0), rfl, hq9, by rw [ht]; exact hP9, va_K.moved hW.alike hK, hD9⟩, hS.F ht⟩) hS.2.2 dX4_wipe_15
abbrev pX4_offence (m0 : Nat) (m1 : Nat) (m2 : Nat) (m3 : Nat) (m4 : Nat) (m5 : Nat) (m6 : Nat) (m7 : Nat) (m8 : Nat) (m9 : Nat) (cd : Int32) (row : Nat → Nat) (sz1 : Nat) (nd : Nat) (tg : Nat → Nat) (st : Nat → Nat) (ln : Nat → Nat) (pa : Nat → Int32) (rd : Nat) (of : Int32) (ar : Nat → Nat) (dp : Nat) (at_ : Nat) (rs : Int32) (fd : Nat) (pl : Int32) (tx : Nat → Nat) (ou : Nat → Nat) (wr : Nat) (op : Nat → Nat) (on : Nat) (dn : Nat) : Int32 → Int32 → Prop := fun (r : Int32) (cd2 : Int32) => r = of ∧ cd2 = nI 0
abbrev vX4_offence (cA : ClassId) (m0 : Nat) (m1 : Nat) (m2 : Nat) (m3 : Nat) (m4 : Nat) (m5 : Nat) (m6 : Nat) (m7 : Nat) (m8 : Nat) (m9 : Nat) (cd : Int32) (row : Nat → Nat) (sz1 : Nat) (nd : Nat) (tg : Nat → Nat) (st : Nat → Nat) (ln : Nat → Nat) (pa : Nat → Int32) (rd : Nat) (of : Int32) (ar : Nat → Nat) (dp : Nat) (at_ : Nat) (rs : Int32) (fd : Nat) (pl : Int32) (tx : Nat → Nat) (ou : Nat → Nat) (wr : Nat) (op : Nat → Nat) (on : Nat) (dn : Nat) : Int32 → va_W := fun (cd2 : Int32) => wM cA m0 m1 m2 m3 m4 m5 m6 m7 m8 m9 cd2 row sz1 nd tg st ln pa rd of ar dp at_ rs fd pl tx ou wr op on dn
abbrev qX4_offence (dC : Nat → ClassId) (dI : Nat → Nat → Nat) (cA : ClassId) (A : Nat → Prop) (m0 : Nat) (m1 : Nat) (m2 : Nat) (m3 : Nat) (m4 : Nat) (m5 : Nat) (m6 : Nat) (m7 : Nat) (m8 : Nat) (m9 : Nat) (cd : Int32) (row : Nat → Nat) (sz1 : Nat) (nd : Nat) (tg : Nat → Nat) (st : Nat → Nat) (ln : Nat → Nat) (pa : Nat → Int32) (rd : Nat) (of : Int32) (ar : Nat → Nat) (dp : Nat) (at_ : Nat) (rs : Int32) (fd : Nat) (pl : Int32) (tx : Nat → Nat) (ou : Nat → Nat) (wr : Nat) (op : Nat → Nat) (on : Nat) (dn : Nat) : Array Value → State → Outcome → State → Prop := va_Qi (pX4_offence m0 m1 m2 m3 m4 m5 m6 m7 m8 m9 cd row sz1 nd tg st ln pa rd of ar dp at_ rs fd pl tx ou wr op on dn) (fun u => cAft dC dI cA A (vX4_offence cA m0 m1 m2 m3 m4 m5 m6 m7 m8 m9 cd row sz1 nd tg st ln pa rd of ar dp at_ rs fd pl tx ou wr op on dn u)) A
set_option maxHeartbeats 4000000 in
set_option maxRecDepth 100000 in
theorem k_X4_offence (l : Launch) (dC : Nat → ClassId) (dI : Nat → Nat → Nat) (cA : ClassId) (m0 : Nat) (m1 : Nat) (m2 : Nat) (m3 : Nat) (m4 : Nat) (m5 : Nat) (m6 : Nat) (m7 : Nat) (m8 : Nat) (m9 : Nat) (cd : Int32) (row : Nat → Nat) (sz1 : Nat) (nd : Nat) (tg : Nat → Nat) (st : Nat → Nat) (ln : Nat → Nat) (pa : Nat → Int32) (rd : Nat) (of : Int32) (ar : Nat → Nat) (dp : Nat) (at_ : Nat) (rs : Int32) (fd : Nat) (pl : Int32) (tx : Nat → Nat) (ou : Nat → Nat) (wr : Nat) (op : Nat → Nat) (on : Nat) (dn : Nat) (sz : Nat)  : Met l yX4_offence wsX4_offence ({ frames := 0, cells := 0, slots := 0, locals := 0 } : Room) (va_Pc [.ref m0] (cPre dC dI cA (wM cA m0 m1 m2 m3 m4 m5 m6 m7 m8 m9 cd row sz1 nd tg st ln pa rd of ar dp at_ rs fd pl tx ou wr op on dn) sz)) (qX4_offence dC dI cA (va_A (wM cA m0 m1 m2 m3 m4 m5 m6 m7 m8 m9 cd row sz1 nd tg st ln pa rd of ar dp at_ rs fd pl tx ou wr op on dn) sz) m0 m1 m2 m3 m4 m5 m6 m7 m8 m9 cd row sz1 nd tg st ln pa rd of ar dp at_ rs fd pl tx ou wr op on dn) 0 0 (va_A (wM cA m0 m1 m2 m3 m4 m5 m6 m7 m8 m9 cd row sz1 nd tg st ln pa rd of ar dp at_ rs fd pl tx ou wr op on dn) sz) := by
  refine Met.ofW (cc := cX4_offence) (maxL := 1) (ret := (some .int)) (by decide) rfl ?_
  intro p e s m args below meth c s₁ B hml hv
  obtain ⟨rfl, hsz, hP, hK, hD0⟩ := hv
  have hx := B.exec
  have hb := B.bytes
  have hr := B.returns
  have hts := atoms_spec (ws := wsX4_offence) B.pre
  have hown : s.vm.findClass RX4 = some m.cls := findClass_of_methodNamed B.named
  have hlocks := B.notSynchronized
  subst hsz
  have hD := hD0.self (sz := s.heap.size)
  generalize hAe : va_A (wM cA m0 m1 m2 m3 m4 m5 m6 m7 m8 m9 cd row sz1 nd tg st ln pa rd of ar dp at_ rs fd pl tx ou wr op on dn) s.heap.size = A at hD ⊢
  have hA : ∀ q : Nat, s.heap.size ≤ q → A q := fun q h => by rw [← hAe]; exact Or.inr h
  have hS : va_S A s.heap s.heap [] := va_S.rf
  have hl := lv_entry ([.ref m0]) (n := 1) (Nat.le_of_ble_eq_true rfl)
  rw [lg_entry_eq]
  generalize (lg_sl ([.ref m0]) ++ List.replicate (1 - (lg_sl ([.ref m0])).length) Slot.unset).toArray = ls at hl ⊢
  have hl : lv_has ls 1 [(0, .ref m0)] := hl
  have hinX4 : ∀ w ∈ wsX40, w ∈ wsX4_offence := fun _ h => List.mem_cons_of_mem _ (List.mem_append_right _ h)
  have hf_25 := hts (.fieldLink RX4 25 "DerDeskModel" "offence" "I") (by decide +kernel)
  have hf_41 := hts (.fieldLink RX4 41 "DerDeskModel" "code" "I") (by decide +kernel)
  have hP : va_P (dC, dI) vwCl (wM cA m0 m1 m2 m3 m4 m5 m6 m7 m8 m9 cd row sz1 nd tg st ln pa rd of ar dp at_ rs fd pl tx ou wr op on dn) s.heap := hP
  refine lv_aload_n hx hb dX4_offence_0 rfl (lv_at hl 0 rfl) ?_
  refine lv_iconst (v := nI 0) hx hb dX4_offence_1 (by decide) ?_
  refine va_put (D := (dC, dI)) (ci := 3) (v := .int (nI 0)) (ty := .int) (C := RX4) (T := TX4) (N := 22) hx hb hts hinX4 tyX4 tyX4_ok nmX4 hown hK hP hD hS 0 rfl rfl 0 (by decide) hf_41 (fun _ h9 => h9) rfl (by decide +kernel) rfl rfl (Nat.le_of_ble_eq_true rfl) dX4_offence_2 (fun H locs hP hD hS => ?_)
  have hP : va_P (dC, dI) vwCl (wM cA m0 m1 m2 m3 m4 m5 m6 m7 m8 m9 (nI 0) row sz1 nd tg st ln pa rd of ar dp at_ rs fd pl tx ou wr op on dn) H := hP
  have hD : va_D A (wM cA m0 m1 m2 m3 m4 m5 m6 m7 m8 m9 (nI 0) row sz1 nd tg st ln pa rd of ar dp at_ rs fd pl tx ou wr op on dn) := hD
  refine lv_aload_n hx hb dX4_offence_5 rfl (lv_at hl 0 rfl) ?_
  refine va_get (D := (dC, dI)) (ci := 3) (v := .int of) (C := RX4) (T := TX4) (N := 22) hx hb hts hinX4 hown hK hP 0 rfl rfl 9 (by decide) hf_25 (fun _ h9 => h9) rfl dX4_offence_6 ?_
  have hP9 : va_P (dC, dI) vwCl (vX4_offence cA m0 m1 m2 m3 m4 m5 m6 m7 m8 m9 cd row sz1 nd tg st ln pa rd of ar dp at_ rs fd pl tx ou wr op on dn (nI 0)) _ := hP
  have hD9 : va_D A (vX4_offence cA m0 m1 m2 m3 m4 m5 m6 m7 m8 m9 cd row sz1 nd tg st ln pa rd of ar dp at_ rs fd pl tx ou wr op on dn (nI 0)) := hD
  have hq9 : pX4_offence m0 m1 m2 m3 m4 m5 m6 m7 m8 m9 cd row sz1 nd tg st ln pa rd of ar dp at_ rs fd pl tx ou wr op on dn (of) (nI 0) := ⟨rfl, rfl⟩
  exact W.iret (v := of) hx hb hr (fun t ht hW => ⟨⟨of, (nI 0), rfl, hq9, by rw [ht]; exact hP9, va_K.moved hW.alike hK, hD9⟩, hS.F ht⟩) hS.2.2 dX4_offence_9
abbrev pX4_nodeCount (m0 : Nat) (m1 : Nat) (m2 : Nat) (m3 : Nat) (m4 : Nat) (m5 : Nat) (m6 : Nat) (m7 : Nat) (m8 : Nat) (m9 : Nat) (cd : Int32) (row : Nat → Nat) (sz1 : Nat) (nd : Nat) (tg : Nat → Nat) (st : Nat → Nat) (ln : Nat → Nat) (pa : Nat → Int32) (rd : Nat) (of : Int32) (ar : Nat → Nat) (dp : Nat) (at_ : Nat) (rs : Int32) (fd : Nat) (pl : Int32) (tx : Nat → Nat) (ou : Nat → Nat) (wr : Nat) (op : Nat → Nat) (on : Nat) (dn : Nat) : Int32 → Int32 → Prop := fun (r : Int32) (cd2 : Int32) => r = nI (if rd = 0 then 0 else nd) ∧ cd2 = nI 0
abbrev vX4_nodeCount (cA : ClassId) (m0 : Nat) (m1 : Nat) (m2 : Nat) (m3 : Nat) (m4 : Nat) (m5 : Nat) (m6 : Nat) (m7 : Nat) (m8 : Nat) (m9 : Nat) (cd : Int32) (row : Nat → Nat) (sz1 : Nat) (nd : Nat) (tg : Nat → Nat) (st : Nat → Nat) (ln : Nat → Nat) (pa : Nat → Int32) (rd : Nat) (of : Int32) (ar : Nat → Nat) (dp : Nat) (at_ : Nat) (rs : Int32) (fd : Nat) (pl : Int32) (tx : Nat → Nat) (ou : Nat → Nat) (wr : Nat) (op : Nat → Nat) (on : Nat) (dn : Nat) : Int32 → va_W := fun (cd2 : Int32) => wM cA m0 m1 m2 m3 m4 m5 m6 m7 m8 m9 cd2 row sz1 nd tg st ln pa rd of ar dp at_ rs fd pl tx ou wr op on dn
abbrev qX4_nodeCount (dC : Nat → ClassId) (dI : Nat → Nat → Nat) (cA : ClassId) (A : Nat → Prop) (m0 : Nat) (m1 : Nat) (m2 : Nat) (m3 : Nat) (m4 : Nat) (m5 : Nat) (m6 : Nat) (m7 : Nat) (m8 : Nat) (m9 : Nat) (cd : Int32) (row : Nat → Nat) (sz1 : Nat) (nd : Nat) (tg : Nat → Nat) (st : Nat → Nat) (ln : Nat → Nat) (pa : Nat → Int32) (rd : Nat) (of : Int32) (ar : Nat → Nat) (dp : Nat) (at_ : Nat) (rs : Int32) (fd : Nat) (pl : Int32) (tx : Nat → Nat) (ou : Nat → Nat) (wr : Nat) (op : Nat → Nat) (on : Nat) (dn : Nat) : Array Value → State → Outcome → State → Prop := va_Qi (pX4_nodeCount m0 m1 m2 m3 m4 m5 m6 m7 m8 m9 cd row sz1 nd tg st ln pa rd of ar dp at_ rs fd pl tx ou wr op on dn) (fun u => cAft dC dI cA A (vX4_nodeCount cA m0 m1 m2 m3 m4 m5 m6 m7 m8 m9 cd row sz1 nd tg st ln pa rd of ar dp at_ rs fd pl tx ou wr op on dn u)) A
set_option maxHeartbeats 4000000 in
set_option maxRecDepth 100000 in
theorem k_X4_nodeCount (l : Launch) (dC : Nat → ClassId) (dI : Nat → Nat → Nat) (cA : ClassId) (m0 : Nat) (m1 : Nat) (m2 : Nat) (m3 : Nat) (m4 : Nat) (m5 : Nat) (m6 : Nat) (m7 : Nat) (m8 : Nat) (m9 : Nat) (cd : Int32) (row : Nat → Nat) (sz1 : Nat) (nd : Nat) (tg : Nat → Nat) (st : Nat → Nat) (ln : Nat → Nat) (pa : Nat → Int32) (rd : Nat) (of : Int32) (ar : Nat → Nat) (dp : Nat) (at_ : Nat) (rs : Int32) (fd : Nat) (pl : Int32) (tx : Nat → Nat) (ou : Nat → Nat) (wr : Nat) (op : Nat → Nat) (on : Nat) (dn : Nat) (sz : Nat) (hrd : rd < 2) : Met l yX4_nodeCount wsX4_nodeCount ({ frames := 0, cells := 0, slots := 0, locals := 0 } : Room) (va_Pc [.ref m0] (cPre dC dI cA (wM cA m0 m1 m2 m3 m4 m5 m6 m7 m8 m9 cd row sz1 nd tg st ln pa rd of ar dp at_ rs fd pl tx ou wr op on dn) sz)) (qX4_nodeCount dC dI cA (va_A (wM cA m0 m1 m2 m3 m4 m5 m6 m7 m8 m9 cd row sz1 nd tg st ln pa rd of ar dp at_ rs fd pl tx ou wr op on dn) sz) m0 m1 m2 m3 m4 m5 m6 m7 m8 m9 cd row sz1 nd tg st ln pa rd of ar dp at_ rs fd pl tx ou wr op on dn) 0 0 (va_A (wM cA m0 m1 m2 m3 m4 m5 m6 m7 m8 m9 cd row sz1 nd tg st ln pa rd of ar dp at_ rs fd pl tx ou wr op on dn) sz) := by
  refine Met.ofW (cc := cX4_nodeCount) (maxL := 1) (ret := (some .int)) (by decide) rfl ?_
  intro p e s m args below meth c s₁ B hml hv
  obtain ⟨rfl, hsz, hP, hK, hD0⟩ := hv
  have hx := B.exec
  have hb := B.bytes
  have hr := B.returns
  have hts := atoms_spec (ws := wsX4_nodeCount) B.pre
  have hown : s.vm.findClass RX4 = some m.cls := findClass_of_methodNamed B.named
  have hlocks := B.notSynchronized
  subst hsz
  have hD := hD0.self (sz := s.heap.size)
  generalize hAe : va_A (wM cA m0 m1 m2 m3 m4 m5 m6 m7 m8 m9 cd row sz1 nd tg st ln pa rd of ar dp at_ rs fd pl tx ou wr op on dn) s.heap.size = A at hD ⊢
  have hA : ∀ q : Nat, s.heap.size ≤ q → A q := fun q h => by rw [← hAe]; exact Or.inr h
  have hS : va_S A s.heap s.heap [] := va_S.rf
  have hl := lv_entry ([.ref m0]) (n := 1) (Nat.le_of_ble_eq_true rfl)
  rw [lg_entry_eq]
  generalize (lg_sl ([.ref m0]) ++ List.replicate (1 - (lg_sl ([.ref m0])).length) Slot.unset).toArray = ls at hl ⊢
  have hl : lv_has ls 1 [(0, .ref m0)] := hl
  have hinX4 : ∀ w ∈ wsX40, w ∈ wsX4_nodeCount := fun _ h => List.mem_cons_of_mem _ (List.mem_append_right _ h)
  have hf_41 := hts (.fieldLink RX4 41 "DerDeskModel" "code" "I") (by decide +kernel)
  have hf_51 := hts (.fieldLink RX4 51 "DerDeskModel" "read" "Z") (by decide +kernel)
  have hf_91 := hts (.fieldLink RX4 91 "DerDeskModel" "nodes" "I") (by decide +kernel)
  have hP : va_P (dC, dI) vwCl (wM cA m0 m1 m2 m3 m4 m5 m6 m7 m8 m9 cd row sz1 nd tg st ln pa rd of ar dp at_ rs fd pl tx ou wr op on dn) s.heap := hP
  refine lv_aload_n hx hb dX4_nodeCount_0 rfl (lv_at hl 0 rfl) ?_
  refine lv_iconst (v := nI 0) hx hb dX4_nodeCount_1 (by decide) ?_
  refine va_put (D := (dC, dI)) (ci := 3) (v := .int (nI 0)) (ty := .int) (C := RX4) (T := TX4) (N := 22) hx hb hts hinX4 tyX4 tyX4_ok nmX4 hown hK hP hD hS 0 rfl rfl 0 (by decide) hf_41 (fun _ h9 => h9) rfl (by decide +kernel) rfl rfl (Nat.le_of_ble_eq_true rfl) dX4_nodeCount_2 (fun H locs hP hD hS => ?_)
  have hP : va_P (dC, dI) vwCl (wM cA m0 m1 m2 m3 m4 m5 m6 m7 m8 m9 (nI 0) row sz1 nd tg st ln pa rd of ar dp at_ rs fd pl tx ou wr op on dn) H := hP
  have hD : va_D A (wM cA m0 m1 m2 m3 m4 m5 m6 m7 m8 m9 (nI 0) row sz1 nd tg st ln pa rd of ar dp at_ rs fd pl tx ou wr op on dn) := hD
  refine lv_aload_n hx hb dX4_nodeCount_5 rfl (lv_at hl 0 rfl) ?_
  refine va_get (D := (dC, dI)) (ci := 3) (v := .int (nI rd)) (C := RX4) (T := TX4) (N := 22) hx hb hts hinX4 hown hK hP 0 rfl rfl 8 (by decide) hf_51 (fun _ h9 => h9) rfl dX4_nodeCount_6 ?_
  refine hl_if_eq (tgt := 19) hx hb dX4_nodeCount_9 (by decide) (by omega) (fun c_1 => ?_) (fun c_1 => ?_)
  · refine lv_iconst (v := nI 0) hx hb dX4_nodeCount_19 (by decide) ?_
    have hP9 : va_P (dC, dI) vwCl (vX4_nodeCount cA m0 m1 m2 m3 m4 m5 m6 m7 m8 m9 cd row sz1 nd tg st ln pa rd of ar dp at_ rs fd pl tx ou wr op on dn (nI 0)) _ := hP
    have hD9 : va_D A (vX4_nodeCount cA m0 m1 m2 m3 m4 m5 m6 m7 m8 m9 cd row sz1 nd tg st ln pa rd of ar dp at_ rs fd pl tx ou wr op on dn (nI 0)) := hD
    have hq9 : pX4_nodeCount m0 m1 m2 m3 m4 m5 m6 m7 m8 m9 cd row sz1 nd tg st ln pa rd of ar dp at_ rs fd pl tx ou wr op on dn (nI 0) (nI 0) := ⟨congrArg nI (by first | rw [if_pos (by assumption)] | rw [if_neg (by assumption)]), rfl⟩
    exact W.iret (v := nI 0) hx hb hr (fun t ht hW => ⟨⟨nI 0, (nI 0), rfl, hq9, by rw [ht]; exact hP9, va_K.moved hW.alike hK, hD9⟩, hS.F ht⟩) hS.2.2 dX4_nodeCount_20
  · refine lv_aload_n hx hb dX4_nodeCount_12 rfl (lv_at hl 0 rfl) ?_
    refine va_get (D := (dC, dI)) (ci := 3) (v := .int (nI nd)) (C := RX4) (T := TX4) (N := 22) hx hb hts hinX4 hown hK hP 0 rfl rfl 3 (by decide) hf_91 (fun _ h9 => h9) rfl dX4_nodeCount_13 ?_
    refine lv_goto (tgt := 20) hx hb dX4_nodeCount_16 (by decide) ?_
    have hP9 : va_P (dC, dI) vwCl (vX4_nodeCount cA m0 m1 m2 m3 m4 m5 m6 m7 m8 m9 cd row sz1 nd tg st ln pa rd of ar dp at_ rs fd pl tx ou wr op on dn (nI 0)) _ := hP
    have hD9 : va_D A (vX4_nodeCount cA m0 m1 m2 m3 m4 m5 m6 m7 m8 m9 cd row sz1 nd tg st ln pa rd of ar dp at_ rs fd pl tx ou wr op on dn (nI 0)) := hD
    have hq9 : pX4_nodeCount m0 m1 m2 m3 m4 m5 m6 m7 m8 m9 cd row sz1 nd tg st ln pa rd of ar dp at_ rs fd pl tx ou wr op on dn (nI nd) (nI 0) := ⟨congrArg nI (by first | rw [if_pos (by assumption)] | rw [if_neg (by assumption)]), rfl⟩
    exact W.iret (v := nI nd) hx hb hr (fun t ht hW => ⟨⟨nI nd, (nI 0), rfl, hq9, by rw [ht]; exact hP9, va_K.moved hW.alike hK, hD9⟩, hS.F ht⟩) hS.2.2 dX4_nodeCount_20
abbrev pX4_isNode (m0 : Nat) (m1 : Nat) (m2 : Nat) (m3 : Nat) (m4 : Nat) (m5 : Nat) (m6 : Nat) (m7 : Nat) (m8 : Nat) (m9 : Nat) (cd : Int32) (row : Nat → Nat) (sz1 : Nat) (nd : Nat) (tg : Nat → Nat) (st : Nat → Nat) (ln : Nat → Nat) (pa : Nat → Int32) (rd : Nat) (of : Int32) (ar : Nat → Nat) (dp : Nat) (at_ : Nat) (rs : Int32) (fd : Nat) (pl : Int32) (tx : Nat → Nat) (ou : Nat → Nat) (wr : Nat) (op : Nat → Nat) (on : Nat) (dn : Nat) (node : Int32) : Int32 → Int32 → Prop := fun (r : Int32) (cd2 : Int32) => (r = if isNm rd nd node then 1 else 0) ∧ cd2 = nI 0
abbrev vX4_isNode (cA : ClassId) (m0 : Nat) (m1 : Nat) (m2 : Nat) (m3 : Nat) (m4 : Nat) (m5 : Nat) (m6 : Nat) (m7 : Nat) (m8 : Nat) (m9 : Nat) (cd : Int32) (row : Nat → Nat) (sz1 : Nat) (nd : Nat) (tg : Nat → Nat) (st : Nat → Nat) (ln : Nat → Nat) (pa : Nat → Int32) (rd : Nat) (of : Int32) (ar : Nat → Nat) (dp : Nat) (at_ : Nat) (rs : Int32) (fd : Nat) (pl : Int32) (tx : Nat → Nat) (ou : Nat → Nat) (wr : Nat) (op : Nat → Nat) (on : Nat) (dn : Nat) (node : Int32) : Int32 → va_W := fun (cd2 : Int32) => wM cA m0 m1 m2 m3 m4 m5 m6 m7 m8 m9 cd2 row sz1 nd tg st ln pa rd of ar dp at_ rs fd pl tx ou wr op on dn
abbrev qX4_isNode (dC : Nat → ClassId) (dI : Nat → Nat → Nat) (cA : ClassId) (A : Nat → Prop) (m0 : Nat) (m1 : Nat) (m2 : Nat) (m3 : Nat) (m4 : Nat) (m5 : Nat) (m6 : Nat) (m7 : Nat) (m8 : Nat) (m9 : Nat) (cd : Int32) (row : Nat → Nat) (sz1 : Nat) (nd : Nat) (tg : Nat → Nat) (st : Nat → Nat) (ln : Nat → Nat) (pa : Nat → Int32) (rd : Nat) (of : Int32) (ar : Nat → Nat) (dp : Nat) (at_ : Nat) (rs : Int32) (fd : Nat) (pl : Int32) (tx : Nat → Nat) (ou : Nat → Nat) (wr : Nat) (op : Nat → Nat) (on : Nat) (dn : Nat) (node : Int32) : Array Value → State → Outcome → State → Prop := va_Qi (pX4_isNode m0 m1 m2 m3 m4 m5 m6 m7 m8 m9 cd row sz1 nd tg st ln pa rd of ar dp at_ rs fd pl tx ou wr op on dn node) (fun u => cAft dC dI cA A (vX4_isNode cA m0 m1 m2 m3 m4 m5 m6 m7 m8 m9 cd row sz1 nd tg st ln pa rd of ar dp at_ rs fd pl tx ou wr op on dn node u)) A
set_option maxHeartbeats 4000000 in
set_option maxRecDepth 100000 in
theorem k_X4_isNode (l : Launch) (dC : Nat → ClassId) (dI : Nat → Nat → Nat) (cA : ClassId) (m0 : Nat) (m1 : Nat) (m2 : Nat) (m3 : Nat) (m4 : Nat) (m5 : Nat) (m6 : Nat) (m7 : Nat) (m8 : Nat) (m9 : Nat) (cd : Int32) (row : Nat → Nat) (sz1 : Nat) (nd : Nat) (tg : Nat → Nat) (st : Nat → Nat) (ln : Nat → Nat) (pa : Nat → Int32) (rd : Nat) (of : Int32) (ar : Nat → Nat) (dp : Nat) (at_ : Nat) (rs : Int32) (fd : Nat) (pl : Int32) (tx : Nat → Nat) (ou : Nat → Nat) (wr : Nat) (op : Nat → Nat) (on : Nat) (dn : Nat) (node : Int32) (sz : Nat) (hrd : rd < 2) : Met l yX4_isNode wsX4_isNode ({ frames := 0, cells := 0, slots := 0, locals := 0 } : Room) (va_Pc [.ref m0, .int node] (cPre dC dI cA (wM cA m0 m1 m2 m3 m4 m5 m6 m7 m8 m9 cd row sz1 nd tg st ln pa rd of ar dp at_ rs fd pl tx ou wr op on dn) sz)) (qX4_isNode dC dI cA (va_A (wM cA m0 m1 m2 m3 m4 m5 m6 m7 m8 m9 cd row sz1 nd tg st ln pa rd of ar dp at_ rs fd pl tx ou wr op on dn) sz) m0 m1 m2 m3 m4 m5 m6 m7 m8 m9 cd row sz1 nd tg st ln pa rd of ar dp at_ rs fd pl tx ou wr op on dn node) 0 0 (va_A (wM cA m0 m1 m2 m3 m4 m5 m6 m7 m8 m9 cd row sz1 nd tg st ln pa rd of ar dp at_ rs fd pl tx ou wr op on dn) sz) := by
  refine Met.ofW (cc := cX4_isNode) (maxL := 2) (ret := (some .boolean)) (by decide) rfl ?_
  intro p e s m args below meth c s₁ B hml hv
  obtain ⟨rfl, hsz, hP, hK, hD0⟩ := hv
  have hx := B.exec
  have hb := B.bytes
  have hr := B.returns
  have hts := atoms_spec (ws := wsX4_isNode) B.pre
  have hown : s.vm.findClass RX4 = some m.cls := findClass_of_methodNamed B.named
  have hlocks := B.notSynchronized
  subst hsz
  have hD := hD0.self (sz := s.heap.size)
  generalize hAe : va_A (wM cA m0 m1 m2 m3 m4 m5 m6 m7 m8 m9 cd row sz1 nd tg st ln pa rd of ar dp at_ rs fd pl tx ou wr op on dn) s.heap.size = A at hD ⊢
  have hA : ∀ q : Nat, s.heap.size ≤ q → A q := fun q h => by rw [← hAe]; exact Or.inr h
  have hS : va_S A s.heap s.heap [] := va_S.rf
  have hl := lv_entry ([.ref m0, .int node]) (n := 2) (Nat.le_of_ble_eq_true rfl)
  rw [lg_entry_eq]
  generalize (lg_sl ([.ref m0, .int node]) ++ List.replicate (2 - (lg_sl ([.ref m0, .int node])).length) Slot.unset).toArray = ls at hl ⊢
  have hl : lv_has ls 2 [(0, .ref m0), (1, .int node)] := hl
  have hinX4 : ∀ w ∈ wsX40, w ∈ wsX4_isNode := fun _ h => List.mem_cons_of_mem _ (List.mem_append_right _ h)
  have hf_41 := hts (.fieldLink RX4 41 "DerDeskModel" "code" "I") (by decide +kernel)
  have hf_51 := hts (.fieldLink RX4 51 "DerDeskModel" "read" "Z") (by decide +kernel)
  have hf_91 := hts (.fieldLink RX4 91 "DerDeskModel" "nodes" "I") (by decide +kernel)
  have hP : va_P (dC, dI) vwCl (wM cA m0 m1 m2 m3 m4 m5 m6 m7 m8 m9 cd row sz1 nd tg st ln pa rd of ar dp at_ rs fd pl tx ou wr op on dn) s.heap := hP
  refine lv_aload_n hx hb dX4_isNode_0 rfl (lv_at hl 0 rfl) ?_
  refine lv_iconst (v := nI 0) hx hb dX4_isNode_1 (by decide) ?_
  refine va_put (D := (dC, dI)) (ci := 3) (v := .int (nI 0)) (ty := .int) (C := RX4) (T := TX4) (N := 22) hx hb hts hinX4 tyX4 tyX4_ok nmX4 hown hK hP hD hS 0 rfl rfl 0 (by decide) hf_41 (fun _ h9 => h9) rfl (by decide +kernel) rfl rfl (Nat.le_of_ble_eq_true rfl) dX4_isNode_2 (fun H locs hP hD hS => ?_)
  have hP : va_P (dC, dI) vwCl (wM cA m0 m1 m2 m3 m4 m5 m6 m7 m8 m9 (nI 0) row sz1 nd tg st ln pa rd of ar dp at_ rs fd pl tx ou wr op on dn) H := hP
  have hD : va_D A (wM cA m0 m1 m2 m3 m4 m5 m6 m7 m8 m9 (nI 0) row sz1 nd tg st ln pa rd of ar dp at_ rs fd pl tx ou wr op on dn) := hD
  refine lv_aload_n hx hb dX4_isNode_5 rfl (lv_at hl 0 rfl) ?_
  refine va_get (D := (dC, dI)) (ci := 3) (v := .int (nI rd)) (C := RX4) (T := TX4) (N := 22) hx hb hts hinX4 hown hK hP 0 rfl rfl 8 (by decide) hf_51 (fun _ h9 => h9) rfl dX4_isNode_6 ?_
  refine hl_if_eq (tgt := 28) hx hb dX4_isNode_9 (by decide) (by omega) (fun c_1 => ?_) (fun c_1 => ?_)
  · refine lv_iconst (v := nI 0) hx hb dX4_isNode_28 (by decide) ?_
    have hP9 : va_P (dC, dI) vwCl (vX4_isNode cA m0 m1 m2 m3 m4 m5 m6 m7 m8 m9 cd row sz1 nd tg st ln pa rd of ar dp at_ rs fd pl tx ou wr op on dn node (nI 0)) _ := hP
    have hD9 : va_D A (vX4_isNode cA m0 m1 m2 m3 m4 m5 m6 m7 m8 m9 cd row sz1 nd tg st ln pa rd of ar dp at_ rs fd pl tx ou wr op on dn node (nI 0)) := hD
    have hq9 : pX4_isNode m0 m1 m2 m3 m4 m5 m6 m7 m8 m9 cd row sz1 nd tg st ln pa rd of ar dp at_ rs fd pl tx ou wr op on dn node (nI 0) (nI 0) := ⟨(if_neg (by unfold isNm; grind)).symm, rfl⟩
    exact W.zret (v := nI 0) hx hb hr rfl (fun t ht hW => ⟨⟨nI 0, (nI 0), rfl, hq9, by rw [ht]; exact hP9, va_K.moved hW.alike hK, hD9⟩, hS.F ht⟩) hS.2.2 dX4_isNode_29
  · refine lv_iload_n hx hb dX4_isNode_12 rfl (lv_at hl 1 rfl) ?_
    refine lv_if_lt (tgt := 28) hx hb dX4_isNode_13 (by decide) (fun c_2 => ?_) (fun c_2 => ?_)
    · refine lv_iconst (v := nI 0) hx hb dX4_isNode_28 (by decide) ?_
      have hP9 : va_P (dC, dI) vwCl (vX4_isNode cA m0 m1 m2 m3 m4 m5 m6 m7 m8 m9 cd row sz1 nd tg st ln pa rd of ar dp at_ rs fd pl tx ou wr op on dn node (nI 0)) _ := hP
      have hD9 : va_D A (vX4_isNode cA m0 m1 m2 m3 m4 m5 m6 m7 m8 m9 cd row sz1 nd tg st ln pa rd of ar dp at_ rs fd pl tx ou wr op on dn node (nI 0)) := hD
      have hq9 : pX4_isNode m0 m1 m2 m3 m4 m5 m6 m7 m8 m9 cd row sz1 nd tg st ln pa rd of ar dp at_ rs fd pl tx ou wr op on dn node (nI 0) (nI 0) := ⟨(if_neg (by unfold isNm; grind)).symm, rfl⟩
      exact W.zret (v := nI 0) hx hb hr rfl (fun t ht hW => ⟨⟨nI 0, (nI 0), rfl, hq9, by rw [ht]; exact hP9, va_K.moved hW.alike hK, hD9⟩, hS.F ht⟩) hS.2.2 dX4_isNode_29
    · refine lv_iload_n hx hb dX4_isNode_16 rfl (lv_at hl 1 rfl) ?_
      refine lv_aload_n hx hb dX4_isNode_17 rfl (lv_at hl 0 rfl) ?_
      refine va_get (D := (dC, dI)) (ci := 3) (v := .int (nI nd)) (C := RX4) (T := TX4) (N := 22) hx hb hts hinX4 hown hK hP 0 rfl rfl 3 (by decide) hf_91 (fun _ h9 => h9) rfl dX4_isNode_18 ?_
      refine lv_icmp_ge (tgt := 28) hx hb dX4_isNode_21 (by decide) (fun c_3 => ?_) (fun c_3 => ?_)
      · refine lv_iconst (v := nI 0) hx hb dX4_isNode_28 (by decide) ?_
        have hP9 : va_P (dC, dI) vwCl (vX4_isNode cA m0 m1 m2 m3 m4 m5 m6 m7 m8 m9 cd row sz1 nd tg st ln pa rd of ar dp at_ rs fd pl tx ou wr op on dn node (nI 0)) _ := hP
        have hD9 : va_D A (vX4_isNode cA m0 m1 m2 m3 m4 m5 m6 m7 m8 m9 cd row sz1 nd tg st ln pa rd of ar dp at_ rs fd pl tx ou wr op on dn node (nI 0)) := hD
        have hq9 : pX4_isNode m0 m1 m2 m3 m4 m5 m6 m7 m8 m9 cd row sz1 nd tg st ln pa rd of ar dp at_ rs fd pl tx ou wr op on dn node (nI 0) (nI 0) := ⟨(if_neg (by unfold isNm; grind)).symm, rfl⟩
        exact W.zret (v := nI 0) hx hb hr rfl (fun t ht hW => ⟨⟨nI 0, (nI 0), rfl, hq9, by rw [ht]; exact hP9, va_K.moved hW.alike hK, hD9⟩, hS.F ht⟩) hS.2.2 dX4_isNode_29
      · refine lv_iconst (v := nI 1) hx hb dX4_isNode_24 (by decide) ?_
        refine lv_goto (tgt := 29) hx hb dX4_isNode_25 (by decide) ?_
        have hP9 : va_P (dC, dI) vwCl (vX4_isNode cA m0 m1 m2 m3 m4 m5 m6 m7 m8 m9 cd row sz1 nd tg st ln pa rd of ar dp at_ rs fd pl tx ou wr op on dn node (nI 0)) _ := hP
        have hD9 : va_D A (vX4_isNode cA m0 m1 m2 m3 m4 m5 m6 m7 m8 m9 cd row sz1 nd tg st ln pa rd of ar dp at_ rs fd pl tx ou wr op on dn node (nI 0)) := hD
        have hq9 : pX4_isNode m0 m1 m2 m3 m4 m5 m6 m7 m8 m9 cd row sz1 nd tg st ln pa rd of ar dp at_ rs fd pl tx ou wr op on dn node (nI 1) (nI 0) := ⟨(if_pos (by unfold isNm; grind)).symm, rfl⟩
        exact W.zret (v := nI 1) hx hb hr rfl (fun t ht hW => ⟨⟨nI 1, (nI 0), rfl, hq9, by rw [ht]; exact hP9, va_K.moved hW.alike hK, hD9⟩, hS.F ht⟩) hS.2.2 dX4_isNode_29
abbrev pX4_tagOf (m0 : Nat) (m1 : Nat) (m2 : Nat) (m3 : Nat) (m4 : Nat) (m5 : Nat) (m6 : Nat) (m7 : Nat) (m8 : Nat) (m9 : Nat) (cd : Int32) (row : Nat → Nat) (sz1 : Nat) (nd : Nat) (tg : Nat → Nat) (st : Nat → Nat) (ln : Nat → Nat) (pa : Nat → Int32) (rd : Nat) (of : Int32) (ar : Nat → Nat) (dp : Nat) (at_ : Nat) (rs : Int32) (fd : Nat) (pl : Int32) (tx : Nat → Nat) (ou : Nat → Nat) (wr : Nat) (op : Nat → Nat) (on : Nat) (dn : Nat) (node : Int32) : Int32 → Int32 → Prop := fun (r : Int32) (cd2 : Int32) => (r = if isNm rd nd node then nI (tg node.toNatClampNeg) else -1) ∧ cd2 = nI 0
abbrev vX4_tagOf (cA : ClassId) (m0 : Nat) (m1 : Nat) (m2 : Nat) (m3 : Nat) (m4 : Nat) (m5 : Nat) (m6 : Nat) (m7 : Nat) (m8 : Nat) (m9 : Nat) (cd : Int32) (row : Nat → Nat) (sz1 : Nat) (nd : Nat) (tg : Nat → Nat) (st : Nat → Nat) (ln : Nat → Nat) (pa : Nat → Int32) (rd : Nat) (of : Int32) (ar : Nat → Nat) (dp : Nat) (at_ : Nat) (rs : Int32) (fd : Nat) (pl : Int32) (tx : Nat → Nat) (ou : Nat → Nat) (wr : Nat) (op : Nat → Nat) (on : Nat) (dn : Nat) (node : Int32) : Int32 → va_W := fun (cd2 : Int32) => wM cA m0 m1 m2 m3 m4 m5 m6 m7 m8 m9 cd2 row sz1 nd tg st ln pa rd of ar dp at_ rs fd pl tx ou wr op on dn
abbrev qX4_tagOf (dC : Nat → ClassId) (dI : Nat → Nat → Nat) (cA : ClassId) (A : Nat → Prop) (m0 : Nat) (m1 : Nat) (m2 : Nat) (m3 : Nat) (m4 : Nat) (m5 : Nat) (m6 : Nat) (m7 : Nat) (m8 : Nat) (m9 : Nat) (cd : Int32) (row : Nat → Nat) (sz1 : Nat) (nd : Nat) (tg : Nat → Nat) (st : Nat → Nat) (ln : Nat → Nat) (pa : Nat → Int32) (rd : Nat) (of : Int32) (ar : Nat → Nat) (dp : Nat) (at_ : Nat) (rs : Int32) (fd : Nat) (pl : Int32) (tx : Nat → Nat) (ou : Nat → Nat) (wr : Nat) (op : Nat → Nat) (on : Nat) (dn : Nat) (node : Int32) : Array Value → State → Outcome → State → Prop := va_Qi (pX4_tagOf m0 m1 m2 m3 m4 m5 m6 m7 m8 m9 cd row sz1 nd tg st ln pa rd of ar dp at_ rs fd pl tx ou wr op on dn node) (fun u => cAft dC dI cA A (vX4_tagOf cA m0 m1 m2 m3 m4 m5 m6 m7 m8 m9 cd row sz1 nd tg st ln pa rd of ar dp at_ rs fd pl tx ou wr op on dn node u)) A
set_option maxHeartbeats 4000000 in
set_option maxRecDepth 100000 in
theorem k_X4_tagOf (l : Launch) (dC : Nat → ClassId) (dI : Nat → Nat → Nat) (cA : ClassId) (m0 : Nat) (m1 : Nat) (m2 : Nat) (m3 : Nat) (m4 : Nat) (m5 : Nat) (m6 : Nat) (m7 : Nat) (m8 : Nat) (m9 : Nat) (cd : Int32) (row : Nat → Nat) (sz1 : Nat) (nd : Nat) (tg : Nat → Nat) (st : Nat → Nat) (ln : Nat → Nat) (pa : Nat → Int32) (rd : Nat) (of : Int32) (ar : Nat → Nat) (dp : Nat) (at_ : Nat) (rs : Int32) (fd : Nat) (pl : Int32) (tx : Nat → Nat) (ou : Nat → Nat) (wr : Nat) (op : Nat → Nat) (on : Nat) (dn : Nat) (node : Int32) (sz : Nat) (hrd : rd < 2) (hnd : nd ≤ 64) : Met l yX4_tagOf wsX4_tagOf ({ frames := 1, cells := 0, slots := 0, locals := 21 } : Room) (va_Pc [.ref m0, .int node] (cPre dC dI cA (wM cA m0 m1 m2 m3 m4 m5 m6 m7 m8 m9 cd row sz1 nd tg st ln pa rd of ar dp at_ rs fd pl tx ou wr op on dn) sz)) (qX4_tagOf dC dI cA (va_A (wM cA m0 m1 m2 m3 m4 m5 m6 m7 m8 m9 cd row sz1 nd tg st ln pa rd of ar dp at_ rs fd pl tx ou wr op on dn) sz) m0 m1 m2 m3 m4 m5 m6 m7 m8 m9 cd row sz1 nd tg st ln pa rd of ar dp at_ rs fd pl tx ou wr op on dn node) 0 0 (va_A (wM cA m0 m1 m2 m3 m4 m5 m6 m7 m8 m9 cd row sz1 nd tg st ln pa rd of ar dp at_ rs fd pl tx ou wr op on dn) sz) := by
  refine Met.ofW (cc := cX4_tagOf) (maxL := 2) (ret := (some .int)) (by decide) rfl ?_
  intro p e s m args below meth c s₁ B hml hv
  obtain ⟨rfl, hsz, hP, hK, hD0⟩ := hv
  have hx := B.exec
  have hb := B.bytes
  have hr := B.returns
  have hts := atoms_spec (ws := wsX4_tagOf) B.pre
  have hown : s.vm.findClass RX4 = some m.cls := findClass_of_methodNamed B.named
  have hlocks := B.notSynchronized
  subst hsz
  have hD := hD0.self (sz := s.heap.size)
  generalize hAe : va_A (wM cA m0 m1 m2 m3 m4 m5 m6 m7 m8 m9 cd row sz1 nd tg st ln pa rd of ar dp at_ rs fd pl tx ou wr op on dn) s.heap.size = A at hD ⊢
  have hA : ∀ q : Nat, s.heap.size ≤ q → A q := fun q h => by rw [← hAe]; exact Or.inr h
  have hS : va_S A s.heap s.heap [] := va_S.rf
  have hl := lv_entry ([.ref m0, .int node]) (n := 2) (Nat.le_of_ble_eq_true rfl)
  rw [lg_entry_eq]
  generalize (lg_sl ([.ref m0, .int node]) ++ List.replicate (2 - (lg_sl ([.ref m0, .int node])).length) Slot.unset).toArray = ls at hl ⊢
  have hl : lv_has ls 2 [(0, .ref m0), (1, .int node)] := hl
  have hinX4 : ∀ w ∈ wsX40, w ∈ wsX4_tagOf := fun _ h => List.mem_cons_of_mem _ (List.mem_append_right _ h)
  have hf_13 := hts (.fieldLink RX4 13 "DerDeskModel" "tags" "[I") (by decide +kernel)
  have hP : va_P (dC, dI) vwCl (wM cA m0 m1 m2 m3 m4 m5 m6 m7 m8 m9 cd row sz1 nd tg st ln pa rd of ar dp at_ rs fd pl tx ou wr op on dn) s.heap := hP
  refine lv_aload_n hx hb dX4_tagOf_0 rfl (lv_at hl 0 rfl) ?_
  refine lv_iload_n hx hb dX4_tagOf_1 rfl (lv_at hl 1 rfl) ?_
  refine cl_Vi (As := [.int node]) (rest := []) (wr := []) ⟨hx, hb, hml, hown, hts⟩ (k_X4_isNode l dC dI cA m0 m1 m2 m3 m4 m5 m6 m7 m8 m9 cd row sz1 nd tg st ln pa rd of ar dp at_ rs fd pl tx ou wr op on dn node _ (by omega)) (cwV 1 hts gX4_tagOf_X4_isNode rfl rfl rfl (by decide +kernel) ⟨Nat.le_of_ble_eq_true rfl, Nat.le_of_ble_eq_true rfl⟩) hK hP hD hS hA [0, 1, 2, 3, 4, 5, 6, 7, 8, 9] [] rfl rfl (by decide) (by decide) (by decide) (ci := 3) (q0 := 0) rfl rfl rfl rfl hl.1 rfl (Nat.le_of_ble_eq_true rfl) dX4_tagOf_2 ⟨Nat.le_of_ble_eq_true rfl, Nat.le_of_ble_eq_true rfl⟩ (fun r_1 u_1 H locs hw_1 hP hD hS => ?_)
  obtain ⟨cd2_1, eu_1⟩ : ∃ z, z = u_1 := ⟨_, rfl⟩
  subst eu_1
  have hP : va_P (dC, dI) vwCl (wM cA m0 m1 m2 m3 m4 m5 m6 m7 m8 m9 cd2_1 row sz1 nd tg st ln pa rd of ar dp at_ rs fd pl tx ou wr op on dn) H := hP
  have hD : va_D A (wM cA m0 m1 m2 m3 m4 m5 m6 m7 m8 m9 cd2_1 row sz1 nd tg st ln pa rd of ar dp at_ rs fd pl tx ou wr op on dn) := hD
  have hw_1 : (r_1 = if isNm rd nd node then 1 else 0) ∧ cd2_1 = nI 0 := hw_1
  obtain ⟨e0_1, e1_1⟩ := hw_1
  have e0_1 := e0_1.symm
  subst e0_1
  have e1_1 := e1_1.symm
  subst e1_1
  refine hl_ifb_eq (tgt := 17) hx hb dX4_tagOf_5 (by decide) (fun c_2 => ?_) (fun c_2 => ?_)
  · refine lv_iconst (v := (-1)) hx hb dX4_tagOf_17 (by decide) ?_
    have hP9 : va_P (dC, dI) vwCl (vX4_tagOf cA m0 m1 m2 m3 m4 m5 m6 m7 m8 m9 cd row sz1 nd tg st ln pa rd of ar dp at_ rs fd pl tx ou wr op on dn node (nI 0)) _ := hP
    have hD9 : va_D A (vX4_tagOf cA m0 m1 m2 m3 m4 m5 m6 m7 m8 m9 cd row sz1 nd tg st ln pa rd of ar dp at_ rs fd pl tx ou wr op on dn node (nI 0)) := hD
    have hq9 : pX4_tagOf m0 m1 m2 m3 m4 m5 m6 m7 m8 m9 cd row sz1 nd tg st ln pa rd of ar dp at_ rs fd pl tx ou wr op on dn node ((-1)) (nI 0) := ⟨(if_neg (by assumption)).symm, rfl⟩
    exact W.iret (v := (-1)) hx hb hr (fun t ht hW => ⟨⟨(-1), (nI 0), rfl, hq9, by rw [ht]; exact hP9, va_K.moved hW.alike hK, hD9⟩, hS.F ht⟩) hS.2.2 dX4_tagOf_18
  · refine lv_aload_n hx hb dX4_tagOf_8 rfl (lv_at hl 0 rfl) ?_
    refine va_get (D := (dC, dI)) (ci := 3) (v := .ref m2) (C := RX4) (T := TX4) (N := 22) hx hb hts hinX4 hown hK hP 0 rfl rfl 4 (by decide) hf_13 (fun _ h9 => h9) rfl dX4_tagOf_9 ?_
    refine lv_iload_n hx hb dX4_tagOf_12 rfl (lv_at hl 1 rfl) ?_
    have hq := (‹isNm rd nd node›).2
    have hnl := cl_lt hq.1 (by omega) hq.2
    refine hl_top (cl_of hq.1) ?_
    refine hl_iald hx hb hK hP 2 0 rfl rfl (by omega) (by decide) dX4_tagOf_13 ?_
    refine lv_goto (tgt := 18) hx hb dX4_tagOf_14 (by decide) ?_
    have hP9 : va_P (dC, dI) vwCl (vX4_tagOf cA m0 m1 m2 m3 m4 m5 m6 m7 m8 m9 cd row sz1 nd tg st ln pa rd of ar dp at_ rs fd pl tx ou wr op on dn node (nI 0)) _ := hP
    have hD9 : va_D A (vX4_tagOf cA m0 m1 m2 m3 m4 m5 m6 m7 m8 m9 cd row sz1 nd tg st ln pa rd of ar dp at_ rs fd pl tx ou wr op on dn node (nI 0)) := hD
    have hq9 : pX4_tagOf m0 m1 m2 m3 m4 m5 m6 m7 m8 m9 cd row sz1 nd tg st ln pa rd of ar dp at_ rs fd pl tx ou wr op on dn node (nI (tg node.toNatClampNeg)) (nI 0) := ⟨(if_pos (by assumption)).symm, rfl⟩
    exact W.iret (v := nI (tg node.toNatClampNeg)) hx hb hr (fun t ht hW => ⟨⟨nI (tg node.toNatClampNeg), (nI 0), rfl, hq9, by rw [ht]; exact hP9, va_K.moved hW.alike hK, hD9⟩, hS.F ht⟩) hS.2.2 dX4_tagOf_18
abbrev pX4_contentAt (m0 : Nat) (m1 : Nat) (m2 : Nat) (m3 : Nat) (m4 : Nat) (m5 : Nat) (m6 : Nat) (m7 : Nat) (m8 : Nat) (m9 : Nat) (cd : Int32) (row : Nat → Nat) (sz1 : Nat) (nd : Nat) (tg : Nat → Nat) (st : Nat → Nat) (ln : Nat → Nat) (pa : Nat → Int32) (rd : Nat) (of : Int32) (ar : Nat → Nat) (dp : Nat) (at_ : Nat) (rs : Int32) (fd : Nat) (pl : Int32) (tx : Nat → Nat) (ou : Nat → Nat) (wr : Nat) (op : Nat → Nat) (on : Nat) (dn : Nat) (node : Int32) : Int32 → Int32 → Prop := fun (r : Int32) (cd2 : Int32) => (r = if isNm rd nd node then nI (st node.toNatClampNeg) else -1) ∧ cd2 = nI 0
abbrev vX4_contentAt (cA : ClassId) (m0 : Nat) (m1 : Nat) (m2 : Nat) (m3 : Nat) (m4 : Nat) (m5 : Nat) (m6 : Nat) (m7 : Nat) (m8 : Nat) (m9 : Nat) (cd : Int32) (row : Nat → Nat) (sz1 : Nat) (nd : Nat) (tg : Nat → Nat) (st : Nat → Nat) (ln : Nat → Nat) (pa : Nat → Int32) (rd : Nat) (of : Int32) (ar : Nat → Nat) (dp : Nat) (at_ : Nat) (rs : Int32) (fd : Nat) (pl : Int32) (tx : Nat → Nat) (ou : Nat → Nat) (wr : Nat) (op : Nat → Nat) (on : Nat) (dn : Nat) (node : Int32) : Int32 → va_W := fun (cd2 : Int32) => wM cA m0 m1 m2 m3 m4 m5 m6 m7 m8 m9 cd2 row sz1 nd tg st ln pa rd of ar dp at_ rs fd pl tx ou wr op on dn
abbrev qX4_contentAt (dC : Nat → ClassId) (dI : Nat → Nat → Nat) (cA : ClassId) (A : Nat → Prop) (m0 : Nat) (m1 : Nat) (m2 : Nat) (m3 : Nat) (m4 : Nat) (m5 : Nat) (m6 : Nat) (m7 : Nat) (m8 : Nat) (m9 : Nat) (cd : Int32) (row : Nat → Nat) (sz1 : Nat) (nd : Nat) (tg : Nat → Nat) (st : Nat → Nat) (ln : Nat → Nat) (pa : Nat → Int32) (rd : Nat) (of : Int32) (ar : Nat → Nat) (dp : Nat) (at_ : Nat) (rs : Int32) (fd : Nat) (pl : Int32) (tx : Nat → Nat) (ou : Nat → Nat) (wr : Nat) (op : Nat → Nat) (on : Nat) (dn : Nat) (node : Int32) : Array Value → State → Outcome → State → Prop := va_Qi (pX4_contentAt m0 m1 m2 m3 m4 m5 m6 m7 m8 m9 cd row sz1 nd tg st ln pa rd of ar dp at_ rs fd pl tx ou wr op on dn node) (fun u => cAft dC dI cA A (vX4_contentAt cA m0 m1 m2 m3 m4 m5 m6 m7 m8 m9 cd row sz1 nd tg st ln pa rd of ar dp at_ rs fd pl tx ou wr op on dn node u)) A
set_option maxHeartbeats 4000000 in
set_option maxRecDepth 100000 in
theorem k_X4_contentAt (l : Launch) (dC : Nat → ClassId) (dI : Nat → Nat → Nat) (cA : ClassId) (m0 : Nat) (m1 : Nat) (m2 : Nat) (m3 : Nat) (m4 : Nat) (m5 : Nat) (m6 : Nat) (m7 : Nat) (m8 : Nat) (m9 : Nat) (cd : Int32) (row : Nat → Nat) (sz1 : Nat) (nd : Nat) (tg : Nat → Nat) (st : Nat → Nat) (ln : Nat → Nat) (pa : Nat → Int32) (rd : Nat) (of : Int32) (ar : Nat → Nat) (dp : Nat) (at_ : Nat) (rs : Int32) (fd : Nat) (pl : Int32) (tx : Nat → Nat) (ou : Nat → Nat) (wr : Nat) (op : Nat → Nat) (on : Nat) (dn : Nat) (node : Int32) (sz : Nat) (hrd : rd < 2) (hnd : nd ≤ 64) : Met l yX4_contentAt wsX4_contentAt ({ frames := 1, cells := 0, slots := 0, locals := 21 } : Room) (va_Pc [.ref m0, .int node] (cPre dC dI cA (wM cA m0 m1 m2 m3 m4 m5 m6 m7 m8 m9 cd row sz1 nd tg st ln pa rd of ar dp at_ rs fd pl tx ou wr op on dn) sz)) (qX4_contentAt dC dI cA (va_A (wM cA m0 m1 m2 m3 m4 m5 m6 m7 m8 m9 cd row sz1 nd tg st ln pa rd of ar dp at_ rs fd pl tx ou wr op on dn) sz) m0 m1 m2 m3 m4 m5 m6 m7 m8 m9 cd row sz1 nd tg st ln pa rd of ar dp at_ rs fd pl tx ou wr op on dn node) 0 0 (va_A (wM cA m0 m1 m2 m3 m4 m5 m6 m7 m8 m9 cd row sz1 nd tg st ln pa rd of ar dp at_ rs fd pl tx ou wr op on dn) sz) := by
  refine Met.ofW (cc := cX4_contentAt) (maxL := 2) (ret := (some .int)) (by decide) rfl ?_
  intro p e s m args below meth c s₁ B hml hv
  obtain ⟨rfl, hsz, hP, hK, hD0⟩ := hv
  have hx := B.exec
  have hb := B.bytes
  have hr := B.returns
  have hts := atoms_spec (ws := wsX4_contentAt) B.pre
  have hown : s.vm.findClass RX4 = some m.cls := findClass_of_methodNamed B.named
  have hlocks := B.notSynchronized
  subst hsz
  have hD := hD0.self (sz := s.heap.size)
  generalize hAe : va_A (wM cA m0 m1 m2 m3 m4 m5 m6 m7 m8 m9 cd row sz1 nd tg st ln pa rd of ar dp at_ rs fd pl tx ou wr op on dn) s.heap.size = A at hD ⊢
  have hA : ∀ q : Nat, s.heap.size ≤ q → A q := fun q h => by rw [← hAe]; exact Or.inr h
  have hS : va_S A s.heap s.heap [] := va_S.rf
  have hl := lv_entry ([.ref m0, .int node]) (n := 2) (Nat.le_of_ble_eq_true rfl)
  rw [lg_entry_eq]
  generalize (lg_sl ([.ref m0, .int node]) ++ List.replicate (2 - (lg_sl ([.ref m0, .int node])).length) Slot.unset).toArray = ls at hl ⊢
  have hl : lv_has ls 2 [(0, .ref m0), (1, .int node)] := hl
  have hinX4 : ∀ w ∈ wsX40, w ∈ wsX4_contentAt := fun _ h => List.mem_cons_of_mem _ (List.mem_append_right _ h)
  have hf_16 := hts (.fieldLink RX4 16 "DerDeskModel" "starts" "[I") (by decide +kernel)
  have hP : va_P (dC, dI) vwCl (wM cA m0 m1 m2 m3 m4 m5 m6 m7 m8 m9 cd row sz1 nd tg st ln pa rd of ar dp at_ rs fd pl tx ou wr op on dn) s.heap := hP
  refine lv_aload_n hx hb dX4_contentAt_0 rfl (lv_at hl 0 rfl) ?_
  refine lv_iload_n hx hb dX4_contentAt_1 rfl (lv_at hl 1 rfl) ?_
  refine cl_Vi (As := [.int node]) (rest := []) (wr := []) ⟨hx, hb, hml, hown, hts⟩ (k_X4_isNode l dC dI cA m0 m1 m2 m3 m4 m5 m6 m7 m8 m9 cd row sz1 nd tg st ln pa rd of ar dp at_ rs fd pl tx ou wr op on dn node _ (by omega)) (cwV 1 hts gX4_contentAt_X4_isNode rfl rfl rfl (by decide +kernel) ⟨Nat.le_of_ble_eq_true rfl, Nat.le_of_ble_eq_true rfl⟩) hK hP hD hS hA [0, 1, 2, 3, 4, 5, 6, 7, 8, 9] [] rfl rfl (by decide) (by decide) (by decide) (ci := 3) (q0 := 0) rfl rfl rfl rfl hl.1 rfl (Nat.le_of_ble_eq_true rfl) dX4_contentAt_2 ⟨Nat.le_of_ble_eq_true rfl, Nat.le_of_ble_eq_true rfl⟩ (fun r_1 u_1 H locs hw_1 hP hD hS => ?_)
  obtain ⟨cd2_1, eu_1⟩ : ∃ z, z = u_1 := ⟨_, rfl⟩
  subst eu_1
  have hP : va_P (dC, dI) vwCl (wM cA m0 m1 m2 m3 m4 m5 m6 m7 m8 m9 cd2_1 row sz1 nd tg st ln pa rd of ar dp at_ rs fd pl tx ou wr op on dn) H := hP
  have hD : va_D A (wM cA m0 m1 m2 m3 m4 m5 m6 m7 m8 m9 cd2_1 row sz1 nd tg st ln pa rd of ar dp at_ rs fd pl tx ou wr op on dn) := hD
  have hw_1 : (r_1 = if isNm rd nd node then 1 else 0) ∧ cd2_1 = nI 0 := hw_1
  obtain ⟨e0_1, e1_1⟩ := hw_1
  have e0_1 := e0_1.symm
  subst e0_1
  have e1_1 := e1_1.symm
  subst e1_1
  refine hl_ifb_eq (tgt := 17) hx hb dX4_contentAt_5 (by decide) (fun c_2 => ?_) (fun c_2 => ?_)
  · refine lv_iconst (v := (-1)) hx hb dX4_contentAt_17 (by decide) ?_
    have hP9 : va_P (dC, dI) vwCl (vX4_contentAt cA m0 m1 m2 m3 m4 m5 m6 m7 m8 m9 cd row sz1 nd tg st ln pa rd of ar dp at_ rs fd pl tx ou wr op on dn node (nI 0)) _ := hP
    have hD9 : va_D A (vX4_contentAt cA m0 m1 m2 m3 m4 m5 m6 m7 m8 m9 cd row sz1 nd tg st ln pa rd of ar dp at_ rs fd pl tx ou wr op on dn node (nI 0)) := hD
    have hq9 : pX4_contentAt m0 m1 m2 m3 m4 m5 m6 m7 m8 m9 cd row sz1 nd tg st ln pa rd of ar dp at_ rs fd pl tx ou wr op on dn node ((-1)) (nI 0) := ⟨(if_neg (by assumption)).symm, rfl⟩
    exact W.iret (v := (-1)) hx hb hr (fun t ht hW => ⟨⟨(-1), (nI 0), rfl, hq9, by rw [ht]; exact hP9, va_K.moved hW.alike hK, hD9⟩, hS.F ht⟩) hS.2.2 dX4_contentAt_18
  · refine lv_aload_n hx hb dX4_contentAt_8 rfl (lv_at hl 0 rfl) ?_
    refine va_get (D := (dC, dI)) (ci := 3) (v := .ref m3) (C := RX4) (T := TX4) (N := 22) hx hb hts hinX4 hown hK hP 0 rfl rfl 5 (by decide) hf_16 (fun _ h9 => h9) rfl dX4_contentAt_9 ?_
    refine lv_iload_n hx hb dX4_contentAt_12 rfl (lv_at hl 1 rfl) ?_
    have hq := (‹isNm rd nd node›).2
    have hnl := cl_lt hq.1 (by omega) hq.2
    refine hl_top (cl_of hq.1) ?_
    refine hl_iald hx hb hK hP 3 0 rfl rfl (by omega) (by decide) dX4_contentAt_13 ?_
    refine lv_goto (tgt := 18) hx hb dX4_contentAt_14 (by decide) ?_
    have hP9 : va_P (dC, dI) vwCl (vX4_contentAt cA m0 m1 m2 m3 m4 m5 m6 m7 m8 m9 cd row sz1 nd tg st ln pa rd of ar dp at_ rs fd pl tx ou wr op on dn node (nI 0)) _ := hP
    have hD9 : va_D A (vX4_contentAt cA m0 m1 m2 m3 m4 m5 m6 m7 m8 m9 cd row sz1 nd tg st ln pa rd of ar dp at_ rs fd pl tx ou wr op on dn node (nI 0)) := hD
    have hq9 : pX4_contentAt m0 m1 m2 m3 m4 m5 m6 m7 m8 m9 cd row sz1 nd tg st ln pa rd of ar dp at_ rs fd pl tx ou wr op on dn node (nI (st node.toNatClampNeg)) (nI 0) := ⟨(if_pos (by assumption)).symm, rfl⟩
    exact W.iret (v := nI (st node.toNatClampNeg)) hx hb hr (fun t ht hW => ⟨⟨nI (st node.toNatClampNeg), (nI 0), rfl, hq9, by rw [ht]; exact hP9, va_K.moved hW.alike hK, hD9⟩, hS.F ht⟩) hS.2.2 dX4_contentAt_18
abbrev pX4_contentLen (m0 : Nat) (m1 : Nat) (m2 : Nat) (m3 : Nat) (m4 : Nat) (m5 : Nat) (m6 : Nat) (m7 : Nat) (m8 : Nat) (m9 : Nat) (cd : Int32) (row : Nat → Nat) (sz1 : Nat) (nd : Nat) (tg : Nat → Nat) (st : Nat → Nat) (ln : Nat → Nat) (pa : Nat → Int32) (rd : Nat) (of : Int32) (ar : Nat → Nat) (dp : Nat) (at_ : Nat) (rs : Int32) (fd : Nat) (pl : Int32) (tx : Nat → Nat) (ou : Nat → Nat) (wr : Nat) (op : Nat → Nat) (on : Nat) (dn : Nat) (node : Int32) : Int32 → Int32 → Prop := fun (r : Int32) (cd2 : Int32) => (r = if isNm rd nd node then nI (ln node.toNatClampNeg) else -1) ∧ cd2 = nI 0
abbrev vX4_contentLen (cA : ClassId) (m0 : Nat) (m1 : Nat) (m2 : Nat) (m3 : Nat) (m4 : Nat) (m5 : Nat) (m6 : Nat) (m7 : Nat) (m8 : Nat) (m9 : Nat) (cd : Int32) (row : Nat → Nat) (sz1 : Nat) (nd : Nat) (tg : Nat → Nat) (st : Nat → Nat) (ln : Nat → Nat) (pa : Nat → Int32) (rd : Nat) (of : Int32) (ar : Nat → Nat) (dp : Nat) (at_ : Nat) (rs : Int32) (fd : Nat) (pl : Int32) (tx : Nat → Nat) (ou : Nat → Nat) (wr : Nat) (op : Nat → Nat) (on : Nat) (dn : Nat) (node : Int32) : Int32 → va_W := fun (cd2 : Int32) => wM cA m0 m1 m2 m3 m4 m5 m6 m7 m8 m9 cd2 row sz1 nd tg st ln pa rd of ar dp at_ rs fd pl tx ou wr op on dn
abbrev qX4_contentLen (dC : Nat → ClassId) (dI : Nat → Nat → Nat) (cA : ClassId) (A : Nat → Prop) (m0 : Nat) (m1 : Nat) (m2 : Nat) (m3 : Nat) (m4 : Nat) (m5 : Nat) (m6 : Nat) (m7 : Nat) (m8 : Nat) (m9 : Nat) (cd : Int32) (row : Nat → Nat) (sz1 : Nat) (nd : Nat) (tg : Nat → Nat) (st : Nat → Nat) (ln : Nat → Nat) (pa : Nat → Int32) (rd : Nat) (of : Int32) (ar : Nat → Nat) (dp : Nat) (at_ : Nat) (rs : Int32) (fd : Nat) (pl : Int32) (tx : Nat → Nat) (ou : Nat → Nat) (wr : Nat) (op : Nat → Nat) (on : Nat) (dn : Nat) (node : Int32) : Array Value → State → Outcome → State → Prop := va_Qi (pX4_contentLen m0 m1 m2 m3 m4 m5 m6 m7 m8 m9 cd row sz1 nd tg st ln pa rd of ar dp at_ rs fd pl tx ou wr op on dn node) (fun u => cAft dC dI cA A (vX4_contentLen cA m0 m1 m2 m3 m4 m5 m6 m7 m8 m9 cd row sz1 nd tg st ln pa rd of ar dp at_ rs fd pl tx ou wr op on dn node u)) A
set_option maxHeartbeats 4000000 in
set_option maxRecDepth 100000 in
theorem k_X4_contentLen (l : Launch) (dC : Nat → ClassId) (dI : Nat → Nat → Nat) (cA : ClassId) (m0 : Nat) (m1 : Nat) (m2 : Nat) (m3 : Nat) (m4 : Nat) (m5 : Nat) (m6 : Nat) (m7 : Nat) (m8 : Nat) (m9 : Nat) (cd : Int32) (row : Nat → Nat) (sz1 : Nat) (nd : Nat) (tg : Nat → Nat) (st : Nat → Nat) (ln : Nat → Nat) (pa : Nat → Int32) (rd : Nat) (of : Int32) (ar : Nat → Nat) (dp : Nat) (at_ : Nat) (rs : Int32) (fd : Nat) (pl : Int32) (tx : Nat → Nat) (ou : Nat → Nat) (wr : Nat) (op : Nat → Nat) (on : Nat) (dn : Nat) (node : Int32) (sz : Nat) (hrd : rd < 2) (hnd : nd ≤ 64) : Met l yX4_contentLen wsX4_contentLen ({ frames := 1, cells := 0, slots := 0, locals := 21 } : Room) (va_Pc [.ref m0, .int node] (cPre dC dI cA (wM cA m0 m1 m2 m3 m4 m5 m6 m7 m8 m9 cd row sz1 nd tg st ln pa rd of ar dp at_ rs fd pl tx ou wr op on dn) sz)) (qX4_contentLen dC dI cA (va_A (wM cA m0 m1 m2 m3 m4 m5 m6 m7 m8 m9 cd row sz1 nd tg st ln pa rd of ar dp at_ rs fd pl tx ou wr op on dn) sz) m0 m1 m2 m3 m4 m5 m6 m7 m8 m9 cd row sz1 nd tg st ln pa rd of ar dp at_ rs fd pl tx ou wr op on dn node) 0 0 (va_A (wM cA m0 m1 m2 m3 m4 m5 m6 m7 m8 m9 cd row sz1 nd tg st ln pa rd of ar dp at_ rs fd pl tx ou wr op on dn) sz) := by
  refine Met.ofW (cc := cX4_contentLen) (maxL := 2) (ret := (some .int)) (by decide) rfl ?_
  intro p e s m args below meth c s₁ B hml hv
  obtain ⟨rfl, hsz, hP, hK, hD0⟩ := hv
  have hx := B.exec
  have hb := B.bytes
  have hr := B.returns
  have hts := atoms_spec (ws := wsX4_contentLen) B.pre
  have hown : s.vm.findClass RX4 = some m.cls := findClass_of_methodNamed B.named
  have hlocks := B.notSynchronized
  subst hsz
  have hD := hD0.self (sz := s.heap.size)
  generalize hAe : va_A (wM cA m0 m1 m2 m3 m4 m5 m6 m7 m8 m9 cd row sz1 nd tg st ln pa rd of ar dp at_ rs fd pl tx ou wr op on dn) s.heap.size = A at hD ⊢
  have hA : ∀ q : Nat, s.heap.size ≤ q → A q := fun q h => by rw [← hAe]; exact Or.inr h
  have hS : va_S A s.heap s.heap [] := va_S.rf
  have hl := lv_entry ([.ref m0, .int node]) (n := 2) (Nat.le_of_ble_eq_true rfl)
  rw [lg_entry_eq]
  generalize (lg_sl ([.ref m0, .int node]) ++ List.replicate (2 - (lg_sl ([.ref m0, .int node])).length) Slot.unset).toArray = ls at hl ⊢
  have hl : lv_has ls 2 [(0, .ref m0), (1, .int node)] := hl
  have hinX4 : ∀ w ∈ wsX40, w ∈ wsX4_contentLen := fun _ h => List.mem_cons_of_mem _ (List.mem_append_right _ h)
  have hf_19 := hts (.fieldLink RX4 19 "DerDeskModel" "lengths" "[I") (by decide +kernel)
  have hP : va_P (dC, dI) vwCl (wM cA m0 m1 m2 m3 m4 m5 m6 m7 m8 m9 cd row sz1 nd tg st ln pa rd of ar dp at_ rs fd pl tx ou wr op on dn) s.heap := hP
  refine lv_aload_n hx hb dX4_contentLen_0 rfl (lv_at hl 0 rfl) ?_
  refine lv_iload_n hx hb dX4_contentLen_1 rfl (lv_at hl 1 rfl) ?_
  refine cl_Vi (As := [.int node]) (rest := []) (wr := []) ⟨hx, hb, hml, hown, hts⟩ (k_X4_isNode l dC dI cA m0 m1 m2 m3 m4 m5 m6 m7 m8 m9 cd row sz1 nd tg st ln pa rd of ar dp at_ rs fd pl tx ou wr op on dn node _ (by omega)) (cwV 1 hts gX4_contentLen_X4_isNode rfl rfl rfl (by decide +kernel) ⟨Nat.le_of_ble_eq_true rfl, Nat.le_of_ble_eq_true rfl⟩) hK hP hD hS hA [0, 1, 2, 3, 4, 5, 6, 7, 8, 9] [] rfl rfl (by decide) (by decide) (by decide) (ci := 3) (q0 := 0) rfl rfl rfl rfl hl.1 rfl (Nat.le_of_ble_eq_true rfl) dX4_contentLen_2 ⟨Nat.le_of_ble_eq_true rfl, Nat.le_of_ble_eq_true rfl⟩ (fun r_1 u_1 H locs hw_1 hP hD hS => ?_)
  obtain ⟨cd2_1, eu_1⟩ : ∃ z, z = u_1 := ⟨_, rfl⟩
  subst eu_1
  have hP : va_P (dC, dI) vwCl (wM cA m0 m1 m2 m3 m4 m5 m6 m7 m8 m9 cd2_1 row sz1 nd tg st ln pa rd of ar dp at_ rs fd pl tx ou wr op on dn) H := hP
  have hD : va_D A (wM cA m0 m1 m2 m3 m4 m5 m6 m7 m8 m9 cd2_1 row sz1 nd tg st ln pa rd of ar dp at_ rs fd pl tx ou wr op on dn) := hD
  have hw_1 : (r_1 = if isNm rd nd node then 1 else 0) ∧ cd2_1 = nI 0 := hw_1
  obtain ⟨e0_1, e1_1⟩ := hw_1
  have e0_1 := e0_1.symm
  subst e0_1
  have e1_1 := e1_1.symm
  subst e1_1
  refine hl_ifb_eq (tgt := 17) hx hb dX4_contentLen_5 (by decide) (fun c_2 => ?_) (fun c_2 => ?_)
  · refine lv_iconst (v := (-1)) hx hb dX4_contentLen_17 (by decide) ?_
    have hP9 : va_P (dC, dI) vwCl (vX4_contentLen cA m0 m1 m2 m3 m4 m5 m6 m7 m8 m9 cd row sz1 nd tg st ln pa rd of ar dp at_ rs fd pl tx ou wr op on dn node (nI 0)) _ := hP
    have hD9 : va_D A (vX4_contentLen cA m0 m1 m2 m3 m4 m5 m6 m7 m8 m9 cd row sz1 nd tg st ln pa rd of ar dp at_ rs fd pl tx ou wr op on dn node (nI 0)) := hD
    have hq9 : pX4_contentLen m0 m1 m2 m3 m4 m5 m6 m7 m8 m9 cd row sz1 nd tg st ln pa rd of ar dp at_ rs fd pl tx ou wr op on dn node ((-1)) (nI 0) := ⟨(if_neg (by assumption)).symm, rfl⟩
    exact W.iret (v := (-1)) hx hb hr (fun t ht hW => ⟨⟨(-1), (nI 0), rfl, hq9, by rw [ht]; exact hP9, va_K.moved hW.alike hK, hD9⟩, hS.F ht⟩) hS.2.2 dX4_contentLen_18
  · refine lv_aload_n hx hb dX4_contentLen_8 rfl (lv_at hl 0 rfl) ?_
    refine va_get (D := (dC, dI)) (ci := 3) (v := .ref m4) (C := RX4) (T := TX4) (N := 22) hx hb hts hinX4 hown hK hP 0 rfl rfl 6 (by decide) hf_19 (fun _ h9 => h9) rfl dX4_contentLen_9 ?_
    refine lv_iload_n hx hb dX4_contentLen_12 rfl (lv_at hl 1 rfl) ?_
    have hq := (‹isNm rd nd node›).2
    have hnl := cl_lt hq.1 (by omega) hq.2
    refine hl_top (cl_of hq.1) ?_
    refine hl_iald hx hb hK hP 4 0 rfl rfl (by omega) (by decide) dX4_contentLen_13 ?_
    refine lv_goto (tgt := 18) hx hb dX4_contentLen_14 (by decide) ?_
    have hP9 : va_P (dC, dI) vwCl (vX4_contentLen cA m0 m1 m2 m3 m4 m5 m6 m7 m8 m9 cd row sz1 nd tg st ln pa rd of ar dp at_ rs fd pl tx ou wr op on dn node (nI 0)) _ := hP
    have hD9 : va_D A (vX4_contentLen cA m0 m1 m2 m3 m4 m5 m6 m7 m8 m9 cd row sz1 nd tg st ln pa rd of ar dp at_ rs fd pl tx ou wr op on dn node (nI 0)) := hD
    have hq9 : pX4_contentLen m0 m1 m2 m3 m4 m5 m6 m7 m8 m9 cd row sz1 nd tg st ln pa rd of ar dp at_ rs fd pl tx ou wr op on dn node (nI (ln node.toNatClampNeg)) (nI 0) := ⟨(if_pos (by assumption)).symm, rfl⟩
    exact W.iret (v := nI (ln node.toNatClampNeg)) hx hb hr (fun t ht hW => ⟨⟨nI (ln node.toNatClampNeg), (nI 0), rfl, hq9, by rw [ht]; exact hP9, va_K.moved hW.alike hK, hD9⟩, hS.F ht⟩) hS.2.2 dX4_contentLen_18
abbrev pX4_parent (m0 : Nat) (m1 : Nat) (m2 : Nat) (m3 : Nat) (m4 : Nat) (m5 : Nat) (m6 : Nat) (m7 : Nat) (m8 : Nat) (m9 : Nat) (cd : Int32) (row : Nat → Nat) (sz1 : Nat) (nd : Nat) (tg : Nat → Nat) (st : Nat → Nat) (ln : Nat → Nat) (pa : Nat → Int32) (rd : Nat) (of : Int32) (ar : Nat → Nat) (dp : Nat) (at_ : Nat) (rs : Int32) (fd : Nat) (pl : Int32) (tx : Nat → Nat) (ou : Nat → Nat) (wr : Nat) (op : Nat → Nat) (on : Nat) (dn : Nat) (node : Int32) : Int32 → Int32 → Prop := fun (r : Int32) (cd2 : Int32) => (r = if isNm rd nd node then pa node.toNatClampNeg else -1) ∧ cd2 = nI 0
abbrev vX4_parent (cA : ClassId) (m0 : Nat) (m1 : Nat) (m2 : Nat) (m3 : Nat) (m4 : Nat) (m5 : Nat) (m6 : Nat) (m7 : Nat) (m8 : Nat) (m9 : Nat) (cd : Int32) (row : Nat → Nat) (sz1 : Nat) (nd : Nat) (tg : Nat → Nat) (st : Nat → Nat) (ln : Nat → Nat) (pa : Nat → Int32) (rd : Nat) (of : Int32) (ar : Nat → Nat) (dp : Nat) (at_ : Nat) (rs : Int32) (fd : Nat) (pl : Int32) (tx : Nat → Nat) (ou : Nat → Nat) (wr : Nat) (op : Nat → Nat) (on : Nat) (dn : Nat) (node : Int32) : Int32 → va_W := fun (cd2 : Int32) => wM cA m0 m1 m2 m3 m4 m5 m6 m7 m8 m9 cd2 row sz1 nd tg st ln pa rd of ar dp at_ rs fd pl tx ou wr op on dn
abbrev qX4_parent (dC : Nat → ClassId) (dI : Nat → Nat → Nat) (cA : ClassId) (A : Nat → Prop) (m0 : Nat) (m1 : Nat) (m2 : Nat) (m3 : Nat) (m4 : Nat) (m5 : Nat) (m6 : Nat) (m7 : Nat) (m8 : Nat) (m9 : Nat) (cd : Int32) (row : Nat → Nat) (sz1 : Nat) (nd : Nat) (tg : Nat → Nat) (st : Nat → Nat) (ln : Nat → Nat) (pa : Nat → Int32) (rd : Nat) (of : Int32) (ar : Nat → Nat) (dp : Nat) (at_ : Nat) (rs : Int32) (fd : Nat) (pl : Int32) (tx : Nat → Nat) (ou : Nat → Nat) (wr : Nat) (op : Nat → Nat) (on : Nat) (dn : Nat) (node : Int32) : Array Value → State → Outcome → State → Prop := va_Qi (pX4_parent m0 m1 m2 m3 m4 m5 m6 m7 m8 m9 cd row sz1 nd tg st ln pa rd of ar dp at_ rs fd pl tx ou wr op on dn node) (fun u => cAft dC dI cA A (vX4_parent cA m0 m1 m2 m3 m4 m5 m6 m7 m8 m9 cd row sz1 nd tg st ln pa rd of ar dp at_ rs fd pl tx ou wr op on dn node u)) A
set_option maxHeartbeats 4000000 in
set_option maxRecDepth 100000 in
theorem k_X4_parent (l : Launch) (dC : Nat → ClassId) (dI : Nat → Nat → Nat) (cA : ClassId) (m0 : Nat) (m1 : Nat) (m2 : Nat) (m3 : Nat) (m4 : Nat) (m5 : Nat) (m6 : Nat) (m7 : Nat) (m8 : Nat) (m9 : Nat) (cd : Int32) (row : Nat → Nat) (sz1 : Nat) (nd : Nat) (tg : Nat → Nat) (st : Nat → Nat) (ln : Nat → Nat) (pa : Nat → Int32) (rd : Nat) (of : Int32) (ar : Nat → Nat) (dp : Nat) (at_ : Nat) (rs : Int32) (fd : Nat) (pl : Int32) (tx : Nat → Nat) (ou : Nat → Nat) (wr : Nat) (op : Nat → Nat) (on : Nat) (dn : Nat) (node : Int32) (sz : Nat) (hrd : rd < 2) (hnd : nd ≤ 64) : Met l yX4_parent wsX4_parent ({ frames := 1, cells := 0, slots := 0, locals := 21 } : Room) (va_Pc [.ref m0, .int node] (cPre dC dI cA (wM cA m0 m1 m2 m3 m4 m5 m6 m7 m8 m9 cd row sz1 nd tg st ln pa rd of ar dp at_ rs fd pl tx ou wr op on dn) sz)) (qX4_parent dC dI cA (va_A (wM cA m0 m1 m2 m3 m4 m5 m6 m7 m8 m9 cd row sz1 nd tg st ln pa rd of ar dp at_ rs fd pl tx ou wr op on dn) sz) m0 m1 m2 m3 m4 m5 m6 m7 m8 m9 cd row sz1 nd tg st ln pa rd of ar dp at_ rs fd pl tx ou wr op on dn node) 0 0 (va_A (wM cA m0 m1 m2 m3 m4 m5 m6 m7 m8 m9 cd row sz1 nd tg st ln pa rd of ar dp at_ rs fd pl tx ou wr op on dn) sz) := by
  refine Met.ofW (cc := cX4_parent) (maxL := 2) (ret := (some .int)) (by decide) rfl ?_
  intro p e s m args below meth c s₁ B hml hv
  obtain ⟨rfl, hsz, hP, hK, hD0⟩ := hv
  have hx := B.exec
  have hb := B.bytes
  have hr := B.returns
  have hts := atoms_spec (ws := wsX4_parent) B.pre
  have hown : s.vm.findClass RX4 = some m.cls := findClass_of_methodNamed B.named
  have hlocks := B.notSynchronized
  subst hsz
  have hD := hD0.self (sz := s.heap.size)
  generalize hAe : va_A (wM cA m0 m1 m2 m3 m4 m5 m6 m7 m8 m9 cd row sz1 nd tg st ln pa rd of ar dp at_ rs fd pl tx ou wr op on dn) s.heap.size = A at hD ⊢
  have hA : ∀ q : Nat, s.heap.size ≤ q → A q := fun q h => by rw [← hAe]; exact Or.inr h
  have hS : va_S A s.heap s.heap [] := va_S.rf
  have hl := lv_entry ([.ref m0, .int node]) (n := 2) (Nat.le_of_ble_eq_true rfl)
  rw [lg_entry_eq]
  generalize (lg_sl ([.ref m0, .int node]) ++ List.replicate (2 - (lg_sl ([.ref m0, .int node])).length) Slot.unset).toArray = ls at hl ⊢
  have hl : lv_has ls 2 [(0, .ref m0), (1, .int node)] := hl
  have hinX4 : ∀ w ∈ wsX40, w ∈ wsX4_parent := fun _ h => List.mem_cons_of_mem _ (List.mem_append_right _ h)
  have hf_22 := hts (.fieldLink RX4 22 "DerDeskModel" "parents" "[I") (by decide +kernel)
  have hP : va_P (dC, dI) vwCl (wM cA m0 m1 m2 m3 m4 m5 m6 m7 m8 m9 cd row sz1 nd tg st ln pa rd of ar dp at_ rs fd pl tx ou wr op on dn) s.heap := hP
  refine lv_aload_n hx hb dX4_parent_0 rfl (lv_at hl 0 rfl) ?_
  refine lv_iload_n hx hb dX4_parent_1 rfl (lv_at hl 1 rfl) ?_
  refine cl_Vi (As := [.int node]) (rest := []) (wr := []) ⟨hx, hb, hml, hown, hts⟩ (k_X4_isNode l dC dI cA m0 m1 m2 m3 m4 m5 m6 m7 m8 m9 cd row sz1 nd tg st ln pa rd of ar dp at_ rs fd pl tx ou wr op on dn node _ (by omega)) (cwV 1 hts gX4_parent_X4_isNode rfl rfl rfl (by decide +kernel) ⟨Nat.le_of_ble_eq_true rfl, Nat.le_of_ble_eq_true rfl⟩) hK hP hD hS hA [0, 1, 2, 3, 4, 5, 6, 7, 8, 9] [] rfl rfl (by decide) (by decide) (by decide) (ci := 3) (q0 := 0) rfl rfl rfl rfl hl.1 rfl (Nat.le_of_ble_eq_true rfl) dX4_parent_2 ⟨Nat.le_of_ble_eq_true rfl, Nat.le_of_ble_eq_true rfl⟩ (fun r_1 u_1 H locs hw_1 hP hD hS => ?_)
  obtain ⟨cd2_1, eu_1⟩ : ∃ z, z = u_1 := ⟨_, rfl⟩
  subst eu_1
  have hP : va_P (dC, dI) vwCl (wM cA m0 m1 m2 m3 m4 m5 m6 m7 m8 m9 cd2_1 row sz1 nd tg st ln pa rd of ar dp at_ rs fd pl tx ou wr op on dn) H := hP
  have hD : va_D A (wM cA m0 m1 m2 m3 m4 m5 m6 m7 m8 m9 cd2_1 row sz1 nd tg st ln pa rd of ar dp at_ rs fd pl tx ou wr op on dn) := hD
  have hw_1 : (r_1 = if isNm rd nd node then 1 else 0) ∧ cd2_1 = nI 0 := hw_1
  obtain ⟨e0_1, e1_1⟩ := hw_1
  have e0_1 := e0_1.symm
  subst e0_1
  have e1_1 := e1_1.symm
  subst e1_1
  refine hl_ifb_eq (tgt := 17) hx hb dX4_parent_5 (by decide) (fun c_2 => ?_) (fun c_2 => ?_)
  · refine lv_iconst (v := (-1)) hx hb dX4_parent_17 (by decide) ?_
    have hP9 : va_P (dC, dI) vwCl (vX4_parent cA m0 m1 m2 m3 m4 m5 m6 m7 m8 m9 cd row sz1 nd tg st ln pa rd of ar dp at_ rs fd pl tx ou wr op on dn node (nI 0)) _ := hP
    have hD9 : va_D A (vX4_parent cA m0 m1 m2 m3 m4 m5 m6 m7 m8 m9 cd row sz1 nd tg st ln pa rd of ar dp at_ rs fd pl tx ou wr op on dn node (nI 0)) := hD
    have hq9 : pX4_parent m0 m1 m2 m3 m4 m5 m6 m7 m8 m9 cd row sz1 nd tg st ln pa rd of ar dp at_ rs fd pl tx ou wr op on dn node ((-1)) (nI 0) := ⟨(if_neg (by assumption)).symm, rfl⟩
    exact W.iret (v := (-1)) hx hb hr (fun t ht hW => ⟨⟨(-1), (nI 0), rfl, hq9, by rw [ht]; exact hP9, va_K.moved hW.alike hK, hD9⟩, hS.F ht⟩) hS.2.2 dX4_parent_18
  · refine lv_aload_n hx hb dX4_parent_8 rfl (lv_at hl 0 rfl) ?_
    refine va_get (D := (dC, dI)) (ci := 3) (v := .ref m5) (C := RX4) (T := TX4) (N := 22) hx hb hts hinX4 hown hK hP 0 rfl rfl 7 (by decide) hf_22 (fun _ h9 => h9) rfl dX4_parent_9 ?_
    refine lv_iload_n hx hb dX4_parent_12 rfl (lv_at hl 1 rfl) ?_
    have hq := (‹isNm rd nd node›).2
    have hnl := cl_lt hq.1 (by omega) hq.2
    refine hl_top (cl_of hq.1) ?_
    refine hl_ialdI hx hb hK hP 5 0 rfl rfl (by omega) (by decide) dX4_parent_13 ?_
    refine lv_goto (tgt := 18) hx hb dX4_parent_14 (by decide) ?_
    have hP9 : va_P (dC, dI) vwCl (vX4_parent cA m0 m1 m2 m3 m4 m5 m6 m7 m8 m9 cd row sz1 nd tg st ln pa rd of ar dp at_ rs fd pl tx ou wr op on dn node (nI 0)) _ := hP
    have hD9 : va_D A (vX4_parent cA m0 m1 m2 m3 m4 m5 m6 m7 m8 m9 cd row sz1 nd tg st ln pa rd of ar dp at_ rs fd pl tx ou wr op on dn node (nI 0)) := hD
    have hq9 : pX4_parent m0 m1 m2 m3 m4 m5 m6 m7 m8 m9 cd row sz1 nd tg st ln pa rd of ar dp at_ rs fd pl tx ou wr op on dn node ((pa node.toNatClampNeg)) (nI 0) := ⟨(if_pos (by assumption)).symm, rfl⟩
    exact W.iret (v := (pa node.toNatClampNeg)) hx hb hr (fun t ht hW => ⟨⟨(pa node.toNatClampNeg), (nI 0), rfl, hq9, by rw [ht]; exact hP9, va_K.moved hW.alike hK, hD9⟩, hS.F ht⟩) hS.2.2 dX4_parent_18
abbrev pX4_intFits (m0 : Nat) (m1 : Nat) (m2 : Nat) (m3 : Nat) (m4 : Nat) (m5 : Nat) (m6 : Nat) (m7 : Nat) (m8 : Nat) (m9 : Nat) (cd : Int32) (row : Nat → Nat) (sz1 : Nat) (nd : Nat) (tg : Nat → Nat) (st : Nat → Nat) (ln : Nat → Nat) (pa : Nat → Int32) (rd : Nat) (of : Int32) (ar : Nat → Nat) (dp : Nat) (at_ : Nat) (rs : Int32) (fd : Nat) (pl : Int32) (tx : Nat → Nat) (ou : Nat → Nat) (wr : Nat) (op : Nat → Nat) (on : Nat) (dn : Nat) (node : Int32) : Int32 → Int32 → Prop := fun (r : Int32) (cd2 : Int32) => (r = if isSn rd nd tg ln node then 1 else 0) ∧ cd2 = nI 0
abbrev vX4_intFits (cA : ClassId) (m0 : Nat) (m1 : Nat) (m2 : Nat) (m3 : Nat) (m4 : Nat) (m5 : Nat) (m6 : Nat) (m7 : Nat) (m8 : Nat) (m9 : Nat) (cd : Int32) (row : Nat → Nat) (sz1 : Nat) (nd : Nat) (tg : Nat → Nat) (st : Nat → Nat) (ln : Nat → Nat) (pa : Nat → Int32) (rd : Nat) (of : Int32) (ar : Nat → Nat) (dp : Nat) (at_ : Nat) (rs : Int32) (fd : Nat) (pl : Int32) (tx : Nat → Nat) (ou : Nat → Nat) (wr : Nat) (op : Nat → Nat) (on : Nat) (dn : Nat) (node : Int32) : Int32 → va_W := fun (cd2 : Int32) => wM cA m0 m1 m2 m3 m4 m5 m6 m7 m8 m9 cd2 row sz1 nd tg st ln pa rd of ar dp at_ rs fd pl tx ou wr op on dn
abbrev qX4_intFits (dC : Nat → ClassId) (dI : Nat → Nat → Nat) (cA : ClassId) (A : Nat → Prop) (m0 : Nat) (m1 : Nat) (m2 : Nat) (m3 : Nat) (m4 : Nat) (m5 : Nat) (m6 : Nat) (m7 : Nat) (m8 : Nat) (m9 : Nat) (cd : Int32) (row : Nat → Nat) (sz1 : Nat) (nd : Nat) (tg : Nat → Nat) (st : Nat → Nat) (ln : Nat → Nat) (pa : Nat → Int32) (rd : Nat) (of : Int32) (ar : Nat → Nat) (dp : Nat) (at_ : Nat) (rs : Int32) (fd : Nat) (pl : Int32) (tx : Nat → Nat) (ou : Nat → Nat) (wr : Nat) (op : Nat → Nat) (on : Nat) (dn : Nat) (node : Int32) : Array Value → State → Outcome → State → Prop := va_Qi (pX4_intFits m0 m1 m2 m3 m4 m5 m6 m7 m8 m9 cd row sz1 nd tg st ln pa rd of ar dp at_ rs fd pl tx ou wr op on dn node) (fun u => cAft dC dI cA A (vX4_intFits cA m0 m1 m2 m3 m4 m5 m6 m7 m8 m9 cd row sz1 nd tg st ln pa rd of ar dp at_ rs fd pl tx ou wr op on dn node u)) A
set_option maxHeartbeats 4000000 in
set_option maxRecDepth 100000 in
theorem k_X4_intFits (l : Launch) (dC : Nat → ClassId) (dI : Nat → Nat → Nat) (cA : ClassId) (m0 : Nat) (m1 : Nat) (m2 : Nat) (m3 : Nat) (m4 : Nat) (m5 : Nat) (m6 : Nat) (m7 : Nat) (m8 : Nat) (m9 : Nat) (cd : Int32) (row : Nat → Nat) (sz1 : Nat) (nd : Nat) (tg : Nat → Nat) (st : Nat → Nat) (ln : Nat → Nat) (pa : Nat → Int32) (rd : Nat) (of : Int32) (ar : Nat → Nat) (dp : Nat) (at_ : Nat) (rs : Int32) (fd : Nat) (pl : Int32) (tx : Nat → Nat) (ou : Nat → Nat) (wr : Nat) (op : Nat → Nat) (on : Nat) (dn : Nat) (node : Int32) (sz : Nat) (hrd : rd < 2) (hnd : nd ≤ 64) (htg : ∀ j, tg j < 256) (hln : ∀ j, ln j < 65536) : Met l yX4_intFits wsX4_intFits ({ frames := 1, cells := 0, slots := 0, locals := 21 } : Room) (va_Pc [.ref m0, .int node] (cPre dC dI cA (wM cA m0 m1 m2 m3 m4 m5 m6 m7 m8 m9 cd row sz1 nd tg st ln pa rd of ar dp at_ rs fd pl tx ou wr op on dn) sz)) (qX4_intFits dC dI cA (va_A (wM cA m0 m1 m2 m3 m4 m5 m6 m7 m8 m9 cd row sz1 nd tg st ln pa rd of ar dp at_ rs fd pl tx ou wr op on dn) sz) m0 m1 m2 m3 m4 m5 m6 m7 m8 m9 cd row sz1 nd tg st ln pa rd of ar dp at_ rs fd pl tx ou wr op on dn node) 0 0 (va_A (wM cA m0 m1 m2 m3 m4 m5 m6 m7 m8 m9 cd row sz1 nd tg st ln pa rd of ar dp at_ rs fd pl tx ou wr op on dn) sz) := by
  refine Met.ofW (cc := cX4_intFits) (maxL := 2) (ret := (some .boolean)) (by decide) rfl ?_
  intro p e s m args below meth c s₁ B hml hv
  obtain ⟨rfl, hsz, hP, hK, hD0⟩ := hv
  have hx := B.exec
  have hb := B.bytes
  have hr := B.returns
  have hts := atoms_spec (ws := wsX4_intFits) B.pre
  have hown : s.vm.findClass RX4 = some m.cls := findClass_of_methodNamed B.named
  have hlocks := B.notSynchronized
  subst hsz
  have hD := hD0.self (sz := s.heap.size)
  generalize hAe : va_A (wM cA m0 m1 m2 m3 m4 m5 m6 m7 m8 m9 cd row sz1 nd tg st ln pa rd of ar dp at_ rs fd pl tx ou wr op on dn) s.heap.size = A at hD ⊢
  have hA : ∀ q : Nat, s.heap.size ≤ q → A q := fun q h => by rw [← hAe]; exact Or.inr h
  have hS : va_S A s.heap s.heap [] := va_S.rf
  have hl := lv_entry ([.ref m0, .int node]) (n := 2) (Nat.le_of_ble_eq_true rfl)
  rw [lg_entry_eq]
  generalize (lg_sl ([.ref m0, .int node]) ++ List.replicate (2 - (lg_sl ([.ref m0, .int node])).length) Slot.unset).toArray = ls at hl ⊢
  have hl : lv_has ls 2 [(0, .ref m0), (1, .int node)] := hl
  have hinX4 : ∀ w ∈ wsX40, w ∈ wsX4_intFits := fun _ h => List.mem_cons_of_mem _ (List.mem_append_right _ h)
  have hf_13 := hts (.fieldLink RX4 13 "DerDeskModel" "tags" "[I") (by decide +kernel)
  have hf_19 := hts (.fieldLink RX4 19 "DerDeskModel" "lengths" "[I") (by decide +kernel)
  have hP : va_P (dC, dI) vwCl (wM cA m0 m1 m2 m3 m4 m5 m6 m7 m8 m9 cd row sz1 nd tg st ln pa rd of ar dp at_ rs fd pl tx ou wr op on dn) s.heap := hP
  refine lv_aload_n hx hb dX4_intFits_0 rfl (lv_at hl 0 rfl) ?_
  refine lv_iload_n hx hb dX4_intFits_1 rfl (lv_at hl 1 rfl) ?_
  refine cl_Vi (As := [.int node]) (rest := []) (wr := []) ⟨hx, hb, hml, hown, hts⟩ (k_X4_isNode l dC dI cA m0 m1 m2 m3 m4 m5 m6 m7 m8 m9 cd row sz1 nd tg st ln pa rd of ar dp at_ rs fd pl tx ou wr op on dn node _ (by omega)) (cwV 1 hts gX4_intFits_X4_isNode rfl rfl rfl (by decide +kernel) ⟨Nat.le_of_ble_eq_true rfl, Nat.le_of_ble_eq_true rfl⟩) hK hP hD hS hA [0, 1, 2, 3, 4, 5, 6, 7, 8, 9] [] rfl rfl (by decide) (by decide) (by decide) (ci := 3) (q0 := 0) rfl rfl rfl rfl hl.1 rfl (Nat.le_of_ble_eq_true rfl) dX4_intFits_2 ⟨Nat.le_of_ble_eq_true rfl, Nat.le_of_ble_eq_true rfl⟩ (fun r_1 u_1 H locs hw_1 hP hD hS => ?_)
  obtain ⟨cd2_1, eu_1⟩ : ∃ z, z = u_1 := ⟨_, rfl⟩
  subst eu_1
  have hP : va_P (dC, dI) vwCl (wM cA m0 m1 m2 m3 m4 m5 m6 m7 m8 m9 cd2_1 row sz1 nd tg st ln pa rd of ar dp at_ rs fd pl tx ou wr op on dn) H := hP
  have hD : va_D A (wM cA m0 m1 m2 m3 m4 m5 m6 m7 m8 m9 cd2_1 row sz1 nd tg st ln pa rd of ar dp at_ rs fd pl tx ou wr op on dn) := hD
  have hw_1 : (r_1 = if isNm rd nd node then 1 else 0) ∧ cd2_1 = nI 0 := hw_1
  obtain ⟨e0_1, e1_1⟩ := hw_1
  have e0_1 := e0_1.symm
  subst e0_1
  have e1_1 := e1_1.symm
  subst e1_1
  refine hl_ifb_eq (tgt := 32) hx hb dX4_intFits_5 (by decide) (fun c_2 => ?_) (fun c_2 => ?_)
  · refine lv_iconst (v := nI 0) hx hb dX4_intFits_32 (by decide) ?_
    have hP9 : va_P (dC, dI) vwCl (vX4_intFits cA m0 m1 m2 m3 m4 m5 m6 m7 m8 m9 cd row sz1 nd tg st ln pa rd of ar dp at_ rs fd pl tx ou wr op on dn node (nI 0)) _ := hP
    have hD9 : va_D A (vX4_intFits cA m0 m1 m2 m3 m4 m5 m6 m7 m8 m9 cd row sz1 nd tg st ln pa rd of ar dp at_ rs fd pl tx ou wr op on dn node (nI 0)) := hD
    have hq9 : pX4_intFits m0 m1 m2 m3 m4 m5 m6 m7 m8 m9 cd row sz1 nd tg st ln pa rd of ar dp at_ rs fd pl tx ou wr op on dn node (nI 0) (nI 0) := ⟨(if_neg (fun h => by have h5 := h.2.2.2.1; have h6 := h.2.2.2.2; have h7 : isNm rd nd node := ⟨h.1, h.2.1, h.2.2.1⟩; first | omega | contradiction)).symm, rfl⟩
    exact W.zret (v := nI 0) hx hb hr rfl (fun t ht hW => ⟨⟨nI 0, (nI 0), rfl, hq9, by rw [ht]; exact hP9, va_K.moved hW.alike hK, hD9⟩, hS.F ht⟩) hS.2.2 dX4_intFits_33
  · refine lv_aload_n hx hb dX4_intFits_8 rfl (lv_at hl 0 rfl) ?_
    refine va_get (D := (dC, dI)) (ci := 3) (v := .ref m2) (C := RX4) (T := TX4) (N := 22) hx hb hts hinX4 hown hK hP 0 rfl rfl 4 (by decide) hf_13 (fun _ h9 => h9) rfl dX4_intFits_9 ?_
    refine lv_iload_n hx hb dX4_intFits_12 rfl (lv_at hl 1 rfl) ?_
    have hq := (‹isNm rd nd node›).2
    have hnl := cl_lt hq.1 (by omega) hq.2
    refine hl_top (cl_of hq.1) ?_
    refine hl_iald hx hb hK hP 2 0 rfl rfl (by omega) (by decide) dX4_intFits_13 ?_
    have hv_3 := htg node.toNatClampNeg
    refine lv_iconst (v := nI 2) hx hb dX4_intFits_14 (by decide) ?_
    refine hl_icmp_ne (tgt := 32) hx hb dX4_intFits_15 (by decide) (by omega) (by omega) (fun c_4 => ?_) (fun c_4 => ?_)
    · refine lv_iconst (v := nI 0) hx hb dX4_intFits_32 (by decide) ?_
      have hP9 : va_P (dC, dI) vwCl (vX4_intFits cA m0 m1 m2 m3 m4 m5 m6 m7 m8 m9 cd row sz1 nd tg st ln pa rd of ar dp at_ rs fd pl tx ou wr op on dn node (nI 0)) _ := hP
      have hD9 : va_D A (vX4_intFits cA m0 m1 m2 m3 m4 m5 m6 m7 m8 m9 cd row sz1 nd tg st ln pa rd of ar dp at_ rs fd pl tx ou wr op on dn node (nI 0)) := hD
      have hq9 : pX4_intFits m0 m1 m2 m3 m4 m5 m6 m7 m8 m9 cd row sz1 nd tg st ln pa rd of ar dp at_ rs fd pl tx ou wr op on dn node (nI 0) (nI 0) := ⟨(if_neg (fun h => by have h5 := h.2.2.2.1; have h6 := h.2.2.2.2; have h7 : isNm rd nd node := ⟨h.1, h.2.1, h.2.2.1⟩; first | omega | contradiction)).symm, rfl⟩
      exact W.zret (v := nI 0) hx hb hr rfl (fun t ht hW => ⟨⟨nI 0, (nI 0), rfl, hq9, by rw [ht]; exact hP9, va_K.moved hW.alike hK, hD9⟩, hS.F ht⟩) hS.2.2 dX4_intFits_33
    · refine lv_aload_n hx hb dX4_intFits_18 rfl (lv_at hl 0 rfl) ?_
      refine va_get (D := (dC, dI)) (ci := 3) (v := .ref m4) (C := RX4) (T := TX4) (N := 22) hx hb hts hinX4 hown hK hP 0 rfl rfl 6 (by decide) hf_19 (fun _ h9 => h9) rfl dX4_intFits_19 ?_
      refine lv_iload_n hx hb dX4_intFits_22 rfl (lv_at hl 1 rfl) ?_
      refine hl_top (cl_of hq.1) ?_
      refine hl_iald hx hb hK hP 4 0 rfl rfl (by omega) (by decide) dX4_intFits_23 ?_
      have hv_5 := hln node.toNatClampNeg
      refine lv_iconst (v := nI 4) hx hb dX4_intFits_24 (by decide) ?_
      refine hl_icmp_gt (tgt := 32) hx hb dX4_intFits_25 (by decide) (by omega) (by omega) (fun c_6 => ?_) (fun c_6 => ?_)
      · refine lv_iconst (v := nI 0) hx hb dX4_intFits_32 (by decide) ?_
        have hP9 : va_P (dC, dI) vwCl (vX4_intFits cA m0 m1 m2 m3 m4 m5 m6 m7 m8 m9 cd row sz1 nd tg st ln pa rd of ar dp at_ rs fd pl tx ou wr op on dn node (nI 0)) _ := hP
        have hD9 : va_D A (vX4_intFits cA m0 m1 m2 m3 m4 m5 m6 m7 m8 m9 cd row sz1 nd tg st ln pa rd of ar dp at_ rs fd pl tx ou wr op on dn node (nI 0)) := hD
        have hq9 : pX4_intFits m0 m1 m2 m3 m4 m5 m6 m7 m8 m9 cd row sz1 nd tg st ln pa rd of ar dp at_ rs fd pl tx ou wr op on dn node (nI 0) (nI 0) := ⟨(if_neg (fun h => by have h5 := h.2.2.2.1; have h6 := h.2.2.2.2; have h7 : isNm rd nd node := ⟨h.1, h.2.1, h.2.2.1⟩; first | omega | contradiction)).symm, rfl⟩
        exact W.zret (v := nI 0) hx hb hr rfl (fun t ht hW => ⟨⟨nI 0, (nI 0), rfl, hq9, by rw [ht]; exact hP9, va_K.moved hW.alike hK, hD9⟩, hS.F ht⟩) hS.2.2 dX4_intFits_33
      · refine lv_iconst (v := nI 1) hx hb dX4_intFits_28 (by decide) ?_
        refine lv_goto (tgt := 33) hx hb dX4_intFits_29 (by decide) ?_
        have hP9 : va_P (dC, dI) vwCl (vX4_intFits cA m0 m1 m2 m3 m4 m5 m6 m7 m8 m9 cd row sz1 nd tg st ln pa rd of ar dp at_ rs fd pl tx ou wr op on dn node (nI 0)) _ := hP
        have hD9 : va_D A (vX4_intFits cA m0 m1 m2 m3 m4 m5 m6 m7 m8 m9 cd row sz1 nd tg st ln pa rd of ar dp at_ rs fd pl tx ou wr op on dn node (nI 0)) := hD
        have hq9 : pX4_intFits m0 m1 m2 m3 m4 m5 m6 m7 m8 m9 cd row sz1 nd tg st ln pa rd of ar dp at_ rs fd pl tx ou wr op on dn node (nI 1) (nI 0) := ⟨(if_pos ⟨(‹isNm rd nd node›).1, hq.1, hq.2, by assumption, by omega⟩).symm, rfl⟩
        exact W.zret (v := nI 1) hx hb hr rfl (fun t ht hW => ⟨⟨nI 1, (nI 0), rfl, hq9, by rw [ht]; exact hP9, va_K.moved hW.alike hK, hD9⟩, hS.F ht⟩) hS.2.2 dX4_intFits_33
abbrev pX4_intValue (m0 : Nat) (m1 : Nat) (m2 : Nat) (m3 : Nat) (m4 : Nat) (m5 : Nat) (m6 : Nat) (m7 : Nat) (m8 : Nat) (m9 : Nat) (cd : Int32) (row : Nat → Nat) (sz1 : Nat) (nd : Nat) (tg : Nat → Nat) (st : Nat → Nat) (ln : Nat → Nat) (pa : Nat → Int32) (rd : Nat) (of : Int32) (ar : Nat → Nat) (dp : Nat) (at_ : Nat) (rs : Int32) (fd : Nat) (pl : Int32) (tx : Nat → Nat) (ou : Nat → Nat) (wr : Nat) (op : Nat → Nat) (on : Nat) (dn : Nat) (node : Int32) : Int32 → Int32 → Prop := fun (r : Int32) (cd2 : Int32) => (r = if isSn rd nd tg ln node then foldI row (st node.toNatClampNeg) (sgI (row (st node.toNatClampNeg))) (ln node.toNatClampNeg) else 0) ∧ cd2 = nI 0
abbrev vX4_intValue (cA : ClassId) (m0 : Nat) (m1 : Nat) (m2 : Nat) (m3 : Nat) (m4 : Nat) (m5 : Nat) (m6 : Nat) (m7 : Nat) (m8 : Nat) (m9 : Nat) (cd : Int32) (row : Nat → Nat) (sz1 : Nat) (nd : Nat) (tg : Nat → Nat) (st : Nat → Nat) (ln : Nat → Nat) (pa : Nat → Int32) (rd : Nat) (of : Int32) (ar : Nat → Nat) (dp : Nat) (at_ : Nat) (rs : Int32) (fd : Nat) (pl : Int32) (tx : Nat → Nat) (ou : Nat → Nat) (wr : Nat) (op : Nat → Nat) (on : Nat) (dn : Nat) (node : Int32) : Int32 → va_W := fun (cd2 : Int32) => wM cA m0 m1 m2 m3 m4 m5 m6 m7 m8 m9 cd2 row sz1 nd tg st ln pa rd of ar dp at_ rs fd pl tx ou wr op on dn
abbrev qX4_intValue (dC : Nat → ClassId) (dI : Nat → Nat → Nat) (cA : ClassId) (A : Nat → Prop) (m0 : Nat) (m1 : Nat) (m2 : Nat) (m3 : Nat) (m4 : Nat) (m5 : Nat) (m6 : Nat) (m7 : Nat) (m8 : Nat) (m9 : Nat) (cd : Int32) (row : Nat → Nat) (sz1 : Nat) (nd : Nat) (tg : Nat → Nat) (st : Nat → Nat) (ln : Nat → Nat) (pa : Nat → Int32) (rd : Nat) (of : Int32) (ar : Nat → Nat) (dp : Nat) (at_ : Nat) (rs : Int32) (fd : Nat) (pl : Int32) (tx : Nat → Nat) (ou : Nat → Nat) (wr : Nat) (op : Nat → Nat) (on : Nat) (dn : Nat) (node : Int32) : Array Value → State → Outcome → State → Prop := va_Qi (pX4_intValue m0 m1 m2 m3 m4 m5 m6 m7 m8 m9 cd row sz1 nd tg st ln pa rd of ar dp at_ rs fd pl tx ou wr op on dn node) (fun u => cAft dC dI cA A (vX4_intValue cA m0 m1 m2 m3 m4 m5 m6 m7 m8 m9 cd row sz1 nd tg st ln pa rd of ar dp at_ rs fd pl tx ou wr op on dn node u)) A
set_option maxHeartbeats 4000000 in
set_option maxRecDepth 100000 in
theorem k_X4_intValue (l : Launch) (dC : Nat → ClassId) (dI : Nat → Nat → Nat) (cA : ClassId) (m0 : Nat) (m1 : Nat) (m2 : Nat) (m3 : Nat) (m4 : Nat) (m5 : Nat) (m6 : Nat) (m7 : Nat) (m8 : Nat) (m9 : Nat) (cd : Int32) (row : Nat → Nat) (sz1 : Nat) (nd : Nat) (tg : Nat → Nat) (st : Nat → Nat) (ln : Nat → Nat) (pa : Nat → Int32) (rd : Nat) (of : Int32) (ar : Nat → Nat) (dp : Nat) (at_ : Nat) (rs : Int32) (fd : Nat) (pl : Int32) (tx : Nat → Nat) (ou : Nat → Nat) (wr : Nat) (op : Nat → Nat) (on : Nat) (dn : Nat) (node : Int32) (sz : Nat) (hrd : rd < 2) (hnd : nd ≤ 64) (hrow : ∀ j, row j < 256) (htg : ∀ j, tg j < 256) (hln : ∀ j, ln j < 65536) (hse : ¬ rd = 0 → ∀ j, j < nd → st j + ln j ≤ 300 ∧ (tg j = 2 → 1 ≤ ln j)) : Met l yX4_intValue wsX4_intValue ({ frames := 2, cells := 0, slots := 0, locals := 42 } : Room) (va_Pc [.ref m0, .int node] (cPre dC dI cA (wM cA m0 m1 m2 m3 m4 m5 m6 m7 m8 m9 cd row sz1 nd tg st ln pa rd of ar dp at_ rs fd pl tx ou wr op on dn) sz)) (qX4_intValue dC dI cA (va_A (wM cA m0 m1 m2 m3 m4 m5 m6 m7 m8 m9 cd row sz1 nd tg st ln pa rd of ar dp at_ rs fd pl tx ou wr op on dn) sz) m0 m1 m2 m3 m4 m5 m6 m7 m8 m9 cd row sz1 nd tg st ln pa rd of ar dp at_ rs fd pl tx ou wr op on dn node) 0 0 (va_A (wM cA m0 m1 m2 m3 m4 m5 m6 m7 m8 m9 cd row sz1 nd tg st ln pa rd of ar dp at_ rs fd pl tx ou wr op on dn) sz) := by
  refine Met.ofW (cc := cX4_intValue) (maxL := 4) (ret := (some .int)) (by decide) rfl ?_
  intro p e s m args below meth c s₁ B hml hv
  obtain ⟨rfl, hsz, hP, hK, hD0⟩ := hv
  have hx := B.exec
  have hb := B.bytes
  have hr := B.returns
  have hts := atoms_spec (ws := wsX4_intValue) B.pre
  have hown : s.vm.findClass RX4 = some m.cls := findClass_of_methodNamed B.named
  have hlocks := B.notSynchronized
  subst hsz
  have hD := hD0.self (sz := s.heap.size)
  generalize hAe : va_A (wM cA m0 m1 m2 m3 m4 m5 m6 m7 m8 m9 cd row sz1 nd tg st ln pa rd of ar dp at_ rs fd pl tx ou wr op on dn) s.heap.size = A at hD ⊢
  have hA : ∀ q : Nat, s.heap.size ≤ q → A q := fun q h => by rw [← hAe]; exact Or.inr h
  have hS : va_S A s.heap s.heap [] := va_S.rf
  have hl := lv_entry ([.ref m0, .int node]) (n := 4) (Nat.le_of_ble_eq_true rfl)
  rw [lg_entry_eq]
  generalize (lg_sl ([.ref m0, .int node]) ++ List.replicate (4 - (lg_sl ([.ref m0, .int node])).length) Slot.unset).toArray = ls at hl ⊢
  have hl : lv_has ls 4 [(0, .ref m0), (1, .int node)] := hl
  have hinX4 : ∀ w ∈ wsX40, w ∈ wsX4_intValue := fun _ h => List.mem_cons_of_mem _ (List.mem_append_right _ h)
  have hf_7 := hts (.fieldLink RX4 7 "DerDeskModel" "row" "[I") (by decide +kernel)
  have hf_16 := hts (.fieldLink RX4 16 "DerDeskModel" "starts" "[I") (by decide +kernel)
  have hf_19 := hts (.fieldLink RX4 19 "DerDeskModel" "lengths" "[I") (by decide +kernel)
  have hP : va_P (dC, dI) vwCl (wM cA m0 m1 m2 m3 m4 m5 m6 m7 m8 m9 cd row sz1 nd tg st ln pa rd of ar dp at_ rs fd pl tx ou wr op on dn) s.heap := hP
  refine lv_aload_n hx hb dX4_intValue_0 rfl (lv_at hl 0 rfl) ?_
  refine lv_iload_n hx hb dX4_intValue_1 rfl (lv_at hl 1 rfl) ?_
  refine cl_Vi (As := [.int node]) (rest := []) (wr := []) ⟨hx, hb, hml, hown, hts⟩ (k_X4_intFits l dC dI cA m0 m1 m2 m3 m4 m5 m6 m7 m8 m9 cd row sz1 nd tg st ln pa rd of ar dp at_ rs fd pl tx ou wr op on dn node _ (by omega) (by omega) htg hln) (cwV 1 hts gX4_intValue_X4_intFits rfl rfl rfl (by decide +kernel) ⟨Nat.le_of_ble_eq_true rfl, Nat.le_of_ble_eq_true rfl⟩) hK hP hD hS hA [0, 1, 2, 3, 4, 5, 6, 7, 8, 9] [] rfl rfl (by decide) (by decide) (by decide) (ci := 3) (q0 := 0) rfl rfl rfl rfl hl.1 rfl (Nat.le_of_ble_eq_true rfl) dX4_intValue_2 ⟨Nat.le_of_ble_eq_true rfl, Nat.le_of_ble_eq_true rfl⟩ (fun r_1 u_1 H locs hw_1 hP hD hS => ?_)
  obtain ⟨cd2_1, eu_1⟩ : ∃ z, z = u_1 := ⟨_, rfl⟩
  subst eu_1
  have hP : va_P (dC, dI) vwCl (wM cA m0 m1 m2 m3 m4 m5 m6 m7 m8 m9 cd2_1 row sz1 nd tg st ln pa rd of ar dp at_ rs fd pl tx ou wr op on dn) H := hP
  have hD : va_D A (wM cA m0 m1 m2 m3 m4 m5 m6 m7 m8 m9 cd2_1 row sz1 nd tg st ln pa rd of ar dp at_ rs fd pl tx ou wr op on dn) := hD
  have hw_1 : (r_1 = if isSn rd nd tg ln node then 1 else 0) ∧ cd2_1 = nI 0 := hw_1
  obtain ⟨e0_1, e1_1⟩ := hw_1
  have e0_1 := e0_1.symm
  subst e0_1
  have e1_1 := e1_1.symm
  subst e1_1
  refine hl_ifb_ne (tgt := 10) hx hb dX4_intValue_5 (by decide) (fun c_2 => ?_) (fun c_2 => ?_)
  · refine lv_aload_n hx hb dX4_intValue_10 rfl (lv_at hl 0 rfl) ?_
    refine va_get (D := (dC, dI)) (ci := 3) (v := .ref m1) (C := RX4) (T := TX4) (N := 22) hx hb hts hinX4 hown hK hP 0 rfl rfl 1 (by decide) hf_7 (fun _ h9 => h9) rfl dX4_intValue_11 ?_
    refine lv_aload_n hx hb dX4_intValue_14 rfl (lv_at hl 0 rfl) ?_
    refine va_get (D := (dC, dI)) (ci := 3) (v := .ref m3) (C := RX4) (T := TX4) (N := 22) hx hb hts hinX4 hown hK hP 0 rfl rfl 5 (by decide) hf_16 (fun _ h9 => h9) rfl dX4_intValue_15 ?_
    refine lv_iload_n hx hb dX4_intValue_18 rfl (lv_at hl 1 rfl) ?_
    have hq := (‹isSn rd nd tg ln node›).2
    have hnl := cl_lt hq.1 (by omega) hq.2.1
    have hl4 := hq.2.2.2
    have hse0 := hse (‹isSn rd nd tg ln node›).1 _ hnl
    have hse1 := hse0.1
    have hse2 := hse0.2 hq.2.2.1
    refine hl_top (cl_of hq.1) ?_
    refine hl_iald hx hb hK hP 3 0 rfl rfl (by omega) (by decide) dX4_intValue_19 ?_
    refine hl_iald hx hb hK hP 1 0 rfl rfl (by omega) (by decide) dX4_intValue_20 ?_
    have hv_3 := hrow (st node.toNatClampNeg)
    refine lv_bipush (v := nI 127) hx hb dX4_intValue_21 (by decide) ?_
    refine hl_icmp_le (tgt := 30) hx hb dX4_intValue_23 (by decide) (by omega) (by omega) (fun c_4 => ?_) (fun c_4 => ?_)
    · refine lv_iconst (v := nI 0) hx hb dX4_intValue_30 (by decide) ?_
      refine lv_istore_n (lv' := [(2, .int (nI 0)), (0, .ref m0), (1, .int node)]) hx hb dX4_intValue_31 rfl hl (by decide) rfl (fun ls hl => ?_)
      refine lv_iconst (v := nI 0) hx hb dX4_intValue_32 (by decide) ?_
      refine lv_istore_n (lv' := [(3, .int (nI 0)), (2, .int (nI 0)), (0, .ref m0), (1, .int node)]) hx hb dX4_intValue_33 rfl hl (by decide) rfl (fun ls hl => ?_)
      have lp_34 : ∀ (nf : Nat) (i : Nat) (vv : Int32), ln node.toNatClampNeg - i < nf → (i ≤ ln node.toNatClampNeg) → (vv = foldI row (st node.toNatClampNeg) (sgI (row (st node.toNatClampNeg))) i) → ∀ (H : Heap) (locs : List Loc) (ls : Array Slot), va_P (dC, dI) vwCl (wM cA m0 m1 m2 m3 m4 m5 m6 m7 m8 m9 (nI 0) row sz1 nd tg st ln pa rd of ar dp at_ rs fd pl tx ou wr op on dn) H → va_D A (wM cA m0 m1 m2 m3 m4 m5 m6 m7 m8 m9 (nI 0) row sz1 nd tg st ln pa rd of ar dp at_ rs fd pl tx ou wr op on dn) → va_S A s.heap H locs → lv_has ls 4 [(3, .int (nI i)), (2, .int vv), (0, .ref m0), (1, .int node)] → W p l e (headSpec wsX4_intValue ({ frames := 2, cells := 0, slots := 0, locals := 42 } : Room)).room s m ([.ref m0, .int node] : List Value).toArray below meth c H locs 0 0 (MQ below (qX4_intValue dC dI cA A m0 m1 m2 m3 m4 m5 m6 m7 m8 m9 cd row sz1 nd tg st ln pa rd of ar dp at_ rs fd pl tx ou wr op on dn node) ([.ref m0, .int node] : List Value).toArray s 0 0 A) (F0 m 34 ls []) := by
        intro nf
        induction nf with
        | zero =>
          intro i vv hm
          exact absurd hm (Nat.not_lt_zero _)
        | succ nf ih_34 =>
          intro i vv hm hi hvv H locs ls hP hD hS hl
          refine lv_iload_n hx hb dX4_intValue_34 rfl (lv_at hl 0 rfl) ?_
          refine lv_aload_n hx hb dX4_intValue_35 rfl (lv_at hl 2 rfl) ?_
          refine va_get (D := (dC, dI)) (ci := 3) (v := .ref m4) (C := RX4) (T := TX4) (N := 22) hx hb hts hinX4 hown hK hP 0 rfl rfl 6 (by decide) hf_19 (fun _ h9 => h9) rfl dX4_intValue_36 ?_
          refine lv_iload_n hx hb dX4_intValue_39 rfl (lv_at hl 3 rfl) ?_
          refine hl_top (cl_of hq.1) ?_
          refine hl_iald hx hb hK hP 4 0 rfl rfl (by omega) (by decide) dX4_intValue_40 ?_
          have hv_6 := hln node.toNatClampNeg
          refine hl_icmp_ge (tgt := 69) hx hb dX4_intValue_41 (by decide) (by omega) (by omega) (fun c_7 => ?_) (fun c_7 => ?_)
          · refine lv_iload_n hx hb dX4_intValue_69 rfl (lv_at hl 1 rfl) ?_
            have hP9 : va_P (dC, dI) vwCl (vX4_intValue cA m0 m1 m2 m3 m4 m5 m6 m7 m8 m9 cd row sz1 nd tg st ln pa rd of ar dp at_ rs fd pl tx ou wr op on dn node (nI 0)) _ := hP
            have hD9 : va_D A (vX4_intValue cA m0 m1 m2 m3 m4 m5 m6 m7 m8 m9 cd row sz1 nd tg st ln pa rd of ar dp at_ rs fd pl tx ou wr op on dn node (nI 0)) := hD
            have hq9 : pX4_intValue m0 m1 m2 m3 m4 m5 m6 m7 m8 m9 cd row sz1 nd tg st ln pa rd of ar dp at_ rs fd pl tx ou wr op on dn node (vv) (nI 0) := ⟨(by show _ = if _ then _ else _; rw [if_pos ‹isSn rd nd tg ln node›, hvv, show i = ln node.toNatClampNeg by omega]), rfl⟩
            exact W.iret (v := vv) hx hb hr (fun t ht hW => ⟨⟨vv, (nI 0), rfl, hq9, by rw [ht]; exact hP9, va_K.moved hW.alike hK, hD9⟩, hS.F ht⟩) hS.2.2 dX4_intValue_70
          · refine lv_iload_n hx hb dX4_intValue_44 rfl (lv_at hl 1 rfl) ?_
            refine lv_bipush (v := nI 8) hx hb dX4_intValue_45 (by decide) ?_
            refine lv_ishl hx hb dX4_intValue_47 ?_
            refine lv_aload_n hx hb dX4_intValue_48 rfl (lv_at hl 2 rfl) ?_
            refine va_get (D := (dC, dI)) (ci := 3) (v := .ref m1) (C := RX4) (T := TX4) (N := 22) hx hb hts hinX4 hown hK hP 0 rfl rfl 1 (by decide) hf_7 (fun _ h9 => h9) rfl dX4_intValue_49 ?_
            refine lv_aload_n hx hb dX4_intValue_52 rfl (lv_at hl 2 rfl) ?_
            refine va_get (D := (dC, dI)) (ci := 3) (v := .ref m3) (C := RX4) (T := TX4) (N := 22) hx hb hts hinX4 hown hK hP 0 rfl rfl 5 (by decide) hf_16 (fun _ h9 => h9) rfl dX4_intValue_53 ?_
            refine lv_iload_n hx hb dX4_intValue_56 rfl (lv_at hl 3 rfl) ?_
            refine hl_top (cl_of hq.1) ?_
            refine hl_iald hx hb hK hP 3 0 rfl rfl (by omega) (by decide) dX4_intValue_57 ?_
            refine lv_iload_n hx hb dX4_intValue_58 rfl (lv_at hl 0 rfl) ?_
            refine hl_iadd hx hb dX4_intValue_59 ?_
            refine hl_iald hx hb hK hP 1 0 rfl rfl (by omega) (by decide) dX4_intValue_60 ?_
            have hv_8 := hrow ((st node.toNatClampNeg) + i)
            refine lv_ior hx hb dX4_intValue_61 ?_
            refine lv_istore_n (lv' := [(2, .int ((vv <<< (nI 8 &&& 31)) ||| nI (row ((st node.toNatClampNeg) + i)))), (3, .int (nI i)), (0, .ref m0), (1, .int node)]) hx hb dX4_intValue_62 rfl hl (by decide) rfl (fun ls hl => ?_)
            refine lv_iinc (v := (nI (i + 1))) (lv' := [(3, .int (nI (i + 1))), (2, .int ((vv <<< (nI 8 &&& 31)) ||| nI (row ((st node.toNatClampNeg) + i)))), (0, .ref m0), (1, .int node)]) hx hb dX4_intValue_63 hl (k := 1) rfl (nI_inc i 1) (by decide) rfl (fun ls hl => ?_)
            refine lv_goto (tgt := 34) hx hb dX4_intValue_66 (by decide) ?_
            exact ih_34 (i + 1) ((vv <<< (nI 8 &&& 31)) ||| nI (row ((st node.toNatClampNeg) + i))) (by omega) (by omega) (by rw [hvv]; rfl) _ _ _ hP hD hS (lv_sub hl [0, 1, 2, 3] rfl)
      exact lp_34 (ln node.toNatClampNeg - 0 + 1) 0 0 (Nat.lt_succ_self _) (by omega) (by unfold foldI sgI; first | rw [if_pos (by omega)] | rw [if_neg (by omega)] | (rw [if_neg (by omega)]; rfl)) _ _ _ hP hD hS (lv_sub hl [0, 1, 2, 3] rfl)
    · refine lv_iconst (v := (-1)) hx hb dX4_intValue_26 (by decide) ?_
      refine lv_goto (tgt := 31) hx hb dX4_intValue_27 (by decide) ?_
      refine lv_istore_n (lv' := [(2, .int (-1)), (0, .ref m0), (1, .int node)]) hx hb dX4_intValue_31 rfl hl (by decide) rfl (fun ls hl => ?_)
      refine lv_iconst (v := nI 0) hx hb dX4_intValue_32 (by decide) ?_
      refine lv_istore_n (lv' := [(3, .int (nI 0)), (2, .int (-1)), (0, .ref m0), (1, .int node)]) hx hb dX4_intValue_33 rfl hl (by decide) rfl (fun ls hl => ?_)
      have lp_34 : ∀ (nf : Nat) (i : Nat) (vv : Int32), ln node.toNatClampNeg - i < nf → (i ≤ ln node.toNatClampNeg) → (vv = foldI row (st node.toNatClampNeg) (sgI (row (st node.toNatClampNeg))) i) → ∀ (H : Heap) (locs : List Loc) (ls : Array Slot), va_P (dC, dI) vwCl (wM cA m0 m1 m2 m3 m4 m5 m6 m7 m8 m9 (nI 0) row sz1 nd tg st ln pa rd of ar dp at_ rs fd pl tx ou wr op on dn) H → va_D A (wM cA m0 m1 m2 m3 m4 m5 m6 m7 m8 m9 (nI 0) row sz1 nd tg st ln pa rd of ar dp at_ rs fd pl tx ou wr op on dn) → va_S A s.heap H locs → lv_has ls 4 [(3, .int (nI i)), (2, .int vv), (0, .ref m0), (1, .int node)] → W p l e (headSpec wsX4_intValue ({ frames := 2, cells := 0, slots := 0, locals := 42 } : Room)).room s m ([.ref m0, .int node] : List Value).toArray below meth c H locs 0 0 (MQ below (qX4_intValue dC dI cA A m0 m1 m2 m3 m4 m5 m6 m7 m8 m9 cd row sz1 nd tg st ln pa rd of ar dp at_ rs fd pl tx ou wr op on dn node) ([.ref m0, .int node] : List Value).toArray s 0 0 A) (F0 m 34 ls []) := by
        intro nf
        induction nf with
        | zero =>
          intro i vv hm
          exact absurd hm (Nat.not_lt_zero _)
        | succ nf ih_34 =>
          intro i vv hm hi hvv H locs ls hP hD hS hl
          refine lv_iload_n hx hb dX4_intValue_34 rfl (lv_at hl 0 rfl) ?_
          refine lv_aload_n hx hb dX4_intValue_35 rfl (lv_at hl 2 rfl) ?_
          refine va_get (D := (dC, dI)) (ci := 3) (v := .ref m4) (C := RX4) (T := TX4) (N := 22) hx hb hts hinX4 hown hK hP 0 rfl rfl 6 (by decide) hf_19 (fun _ h9 => h9) rfl dX4_intValue_36 ?_
          refine lv_iload_n hx hb dX4_intValue_39 rfl (lv_at hl 3 rfl) ?_
          refine hl_top (cl_of hq.1) ?_
          refine hl_iald hx hb hK hP 4 0 rfl rfl (by omega) (by decide) dX4_intValue_40 ?_
          have hv_10 := hln node.toNatClampNeg
          refine hl_icmp_ge (tgt := 69) hx hb dX4_intValue_41 (by decide) (by omega) (by omega) (fun c_11 => ?_) (fun c_11 => ?_)
          · refine lv_iload_n hx hb dX4_intValue_69 rfl (lv_at hl 1 rfl) ?_
            have hP9 : va_P (dC, dI) vwCl (vX4_intValue cA m0 m1 m2 m3 m4 m5 m6 m7 m8 m9 cd row sz1 nd tg st ln pa rd of ar dp at_ rs fd pl tx ou wr op on dn node (nI 0)) _ := hP
            have hD9 : va_D A (vX4_intValue cA m0 m1 m2 m3 m4 m5 m6 m7 m8 m9 cd row sz1 nd tg st ln pa rd of ar dp at_ rs fd pl tx ou wr op on dn node (nI 0)) := hD
            have hq9 : pX4_intValue m0 m1 m2 m3 m4 m5 m6 m7 m8 m9 cd row sz1 nd tg st ln pa rd of ar dp at_ rs fd pl tx ou wr op on dn node (vv) (nI 0) := ⟨(by show _ = if _ then _ else _; rw [if_pos ‹isSn rd nd tg ln node›, hvv, show i = ln node.toNatClampNeg by omega]), rfl⟩
            exact W.iret (v := vv) hx hb hr (fun t ht hW => ⟨⟨vv, (nI 0), rfl, hq9, by rw [ht]; exact hP9, va_K.moved hW.alike hK, hD9⟩, hS.F ht⟩) hS.2.2 dX4_intValue_70
          · refine lv_iload_n hx hb dX4_intValue_44 rfl (lv_at hl 1 rfl) ?_
            refine lv_bipush (v := nI 8) hx hb dX4_intValue_45 (by decide) ?_
            refine lv_ishl hx hb dX4_intValue_47 ?_
            refine lv_aload_n hx hb dX4_intValue_48 rfl (lv_at hl 2 rfl) ?_
            refine va_get (D := (dC, dI)) (ci := 3) (v := .ref m1) (C := RX4) (T := TX4) (N := 22) hx hb hts hinX4 hown hK hP 0 rfl rfl 1 (by decide) hf_7 (fun _ h9 => h9) rfl dX4_intValue_49 ?_
            refine lv_aload_n hx hb dX4_intValue_52 rfl (lv_at hl 2 rfl) ?_
            refine va_get (D := (dC, dI)) (ci := 3) (v := .ref m3) (C := RX4) (T := TX4) (N := 22) hx hb hts hinX4 hown hK hP 0 rfl rfl 5 (by decide) hf_16 (fun _ h9 => h9) rfl dX4_intValue_53 ?_
            refine lv_iload_n hx hb dX4_intValue_56 rfl (lv_at hl 3 rfl) ?_
            refine hl_top (cl_of hq.1) ?_
            refine hl_iald hx hb hK hP 3 0 rfl rfl (by omega) (by decide) dX4_intValue_57 ?_
            refine lv_iload_n hx hb dX4_intValue_58 rfl (lv_at hl 0 rfl) ?_
            refine hl_iadd hx hb dX4_intValue_59 ?_
            refine hl_iald hx hb hK hP 1 0 rfl rfl (by omega) (by decide) dX4_intValue_60 ?_
            have hv_12 := hrow ((st node.toNatClampNeg) + i)
            refine lv_ior hx hb dX4_intValue_61 ?_
            refine lv_istore_n (lv' := [(2, .int ((vv <<< (nI 8 &&& 31)) ||| nI (row ((st node.toNatClampNeg) + i)))), (3, .int (nI i)), (0, .ref m0), (1, .int node)]) hx hb dX4_intValue_62 rfl hl (by decide) rfl (fun ls hl => ?_)
            refine lv_iinc (v := (nI (i + 1))) (lv' := [(3, .int (nI (i + 1))), (2, .int ((vv <<< (nI 8 &&& 31)) ||| nI (row ((st node.toNatClampNeg) + i)))), (0, .ref m0), (1, .int node)]) hx hb dX4_intValue_63 hl (k := 1) rfl (nI_inc i 1) (by decide) rfl (fun ls hl => ?_)
            refine lv_goto (tgt := 34) hx hb dX4_intValue_66 (by decide) ?_
            exact ih_34 (i + 1) ((vv <<< (nI 8 &&& 31)) ||| nI (row ((st node.toNatClampNeg) + i))) (by omega) (by omega) (by rw [hvv]; rfl) _ _ _ hP hD hS (lv_sub hl [0, 1, 2, 3] rfl)
      exact lp_34 (ln node.toNatClampNeg - 0 + 1) 0 (-1) (Nat.lt_succ_self _) (by omega) (by unfold foldI sgI; first | rw [if_pos (by omega)] | rw [if_neg (by omega)] | (rw [if_neg (by omega)]; rfl)) _ _ _ hP hD hS (lv_sub hl [0, 1, 2, 3] rfl)
  · refine lv_iconst (v := nI 0) hx hb dX4_intValue_8 (by decide) ?_
    have hP9 : va_P (dC, dI) vwCl (vX4_intValue cA m0 m1 m2 m3 m4 m5 m6 m7 m8 m9 cd row sz1 nd tg st ln pa rd of ar dp at_ rs fd pl tx ou wr op on dn node (nI 0)) _ := hP
    have hD9 : va_D A (vX4_intValue cA m0 m1 m2 m3 m4 m5 m6 m7 m8 m9 cd row sz1 nd tg st ln pa rd of ar dp at_ rs fd pl tx ou wr op on dn node (nI 0)) := hD
    have hq9 : pX4_intValue m0 m1 m2 m3 m4 m5 m6 m7 m8 m9 cd row sz1 nd tg st ln pa rd of ar dp at_ rs fd pl tx ou wr op on dn node (nI 0) (nI 0) := ⟨(if_neg (by assumption)).symm, rfl⟩
    exact W.iret (v := nI 0) hx hb hr (fun t ht hW => ⟨⟨nI 0, (nI 0), rfl, hq9, by rw [ht]; exact hP9, va_K.moved hW.alike hK, hD9⟩, hS.F ht⟩) hS.2.2 dX4_intValue_9
abbrev pX4_oidArc (m0 : Nat) (m1 : Nat) (m2 : Nat) (m3 : Nat) (m4 : Nat) (m5 : Nat) (m6 : Nat) (m7 : Nat) (m8 : Nat) (m9 : Nat) (cd : Int32) (row : Nat → Nat) (sz1 : Nat) (nd : Nat) (tg : Nat → Nat) (st : Nat → Nat) (ln : Nat → Nat) (pa : Nat → Int32) (rd : Nat) (of : Int32) (ar : Nat → Nat) (dp : Nat) (at_ : Nat) (rs : Int32) (fd : Nat) (pl : Int32) (tx : Nat → Nat) (ou : Nat → Nat) (wr : Nat) (op : Nat → Nat) (on : Nat) (dn : Nat) (node : Int32) (k : Int32) : Int32 → Int32 → Prop := fun (r : Int32) (cd2 : Int32) => (r = if isNm rd nd node ∧ tg node.toNatClampNeg = 6 ∧ ¬ k < 0 then oidS row (st node.toNatClampNeg) (ln node.toNatClampNeg) k.toNatClampNeg else -1) ∧ cd2 = nI 0
abbrev vX4_oidArc (cA : ClassId) (m0 : Nat) (m1 : Nat) (m2 : Nat) (m3 : Nat) (m4 : Nat) (m5 : Nat) (m6 : Nat) (m7 : Nat) (m8 : Nat) (m9 : Nat) (cd : Int32) (row : Nat → Nat) (sz1 : Nat) (nd : Nat) (tg : Nat → Nat) (st : Nat → Nat) (ln : Nat → Nat) (pa : Nat → Int32) (rd : Nat) (of : Int32) (ar : Nat → Nat) (dp : Nat) (at_ : Nat) (rs : Int32) (fd : Nat) (pl : Int32) (tx : Nat → Nat) (ou : Nat → Nat) (wr : Nat) (op : Nat → Nat) (on : Nat) (dn : Nat) (node : Int32) (k : Int32) : Int32 → va_W := fun (cd2 : Int32) => wM cA m0 m1 m2 m3 m4 m5 m6 m7 m8 m9 cd2 row sz1 nd tg st ln pa rd of ar dp at_ rs fd pl tx ou wr op on dn
abbrev qX4_oidArc (dC : Nat → ClassId) (dI : Nat → Nat → Nat) (cA : ClassId) (A : Nat → Prop) (m0 : Nat) (m1 : Nat) (m2 : Nat) (m3 : Nat) (m4 : Nat) (m5 : Nat) (m6 : Nat) (m7 : Nat) (m8 : Nat) (m9 : Nat) (cd : Int32) (row : Nat → Nat) (sz1 : Nat) (nd : Nat) (tg : Nat → Nat) (st : Nat → Nat) (ln : Nat → Nat) (pa : Nat → Int32) (rd : Nat) (of : Int32) (ar : Nat → Nat) (dp : Nat) (at_ : Nat) (rs : Int32) (fd : Nat) (pl : Int32) (tx : Nat → Nat) (ou : Nat → Nat) (wr : Nat) (op : Nat → Nat) (on : Nat) (dn : Nat) (node : Int32) (k : Int32) : Array Value → State → Outcome → State → Prop := va_Qi (pX4_oidArc m0 m1 m2 m3 m4 m5 m6 m7 m8 m9 cd row sz1 nd tg st ln pa rd of ar dp at_ rs fd pl tx ou wr op on dn node k) (fun u => cAft dC dI cA A (vX4_oidArc cA m0 m1 m2 m3 m4 m5 m6 m7 m8 m9 cd row sz1 nd tg st ln pa rd of ar dp at_ rs fd pl tx ou wr op on dn node k u)) A
set_option maxHeartbeats 4000000 in
set_option maxRecDepth 100000 in
theorem k_X4_oidArc (l : Launch) (dC : Nat → ClassId) (dI : Nat → Nat → Nat) (cA : ClassId) (m0 : Nat) (m1 : Nat) (m2 : Nat) (m3 : Nat) (m4 : Nat) (m5 : Nat) (m6 : Nat) (m7 : Nat) (m8 : Nat) (m9 : Nat) (cd : Int32) (row : Nat → Nat) (sz1 : Nat) (nd : Nat) (tg : Nat → Nat) (st : Nat → Nat) (ln : Nat → Nat) (pa : Nat → Int32) (rd : Nat) (of : Int32) (ar : Nat → Nat) (dp : Nat) (at_ : Nat) (rs : Int32) (fd : Nat) (pl : Int32) (tx : Nat → Nat) (ou : Nat → Nat) (wr : Nat) (op : Nat → Nat) (on : Nat) (dn : Nat) (node : Int32) (k : Int32) (sz : Nat) (hrd : rd < 2) (hnd : nd ≤ 64) (hrow : ∀ j, row j < 256) (htg : ∀ j, tg j < 256) (hse : ¬ rd = 0 → ∀ j, j < nd → st j + ln j ≤ 300 ∧ (tg j = 2 → 1 ≤ ln j)) : Met l yX4_oidArc wsX4_oidArc ({ frames := 1, cells := 0, slots := 0, locals := 21 } : Room) (va_Pc [.ref m0, .int node, .int k] (cPre dC dI cA (wM cA m0 m1 m2 m3 m4 m5 m6 m7 m8 m9 cd row sz1 nd tg st ln pa rd of ar dp at_ rs fd pl tx ou wr op on dn) sz)) (qX4_oidArc dC dI cA (va_A (wM cA m0 m1 m2 m3 m4 m5 m6 m7 m8 m9 cd row sz1 nd tg st ln pa rd of ar dp at_ rs fd pl tx ou wr op on dn) sz) m0 m1 m2 m3 m4 m5 m6 m7 m8 m9 cd row sz1 nd tg st ln pa rd of ar dp at_ rs fd pl tx ou wr op on dn node k) 0 0 (va_A (wM cA m0 m1 m2 m3 m4 m5 m6 m7 m8 m9 cd row sz1 nd tg st ln pa rd of ar dp at_ rs fd pl tx ou wr op on dn) sz) := by
  refine Met.ofW (cc := cX4_oidArc) (maxL := 10) (ret := (some .int)) (by decide) rfl ?_
  intro p e s m args below meth c s₁ B hml hv
  obtain ⟨rfl, hsz, hP, hK, hD0⟩ := hv
  have hx := B.exec
  have hb := B.bytes
  have hr := B.returns
  have hts := atoms_spec (ws := wsX4_oidArc) B.pre
  have hown : s.vm.findClass RX4 = some m.cls := findClass_of_methodNamed B.named
  have hlocks := B.notSynchronized
  subst hsz
  have hD := hD0.self (sz := s.heap.size)
  generalize hAe : va_A (wM cA m0 m1 m2 m3 m4 m5 m6 m7 m8 m9 cd row sz1 nd tg st ln pa rd of ar dp at_ rs fd pl tx ou wr op on dn) s.heap.size = A at hD ⊢
  have hA : ∀ q : Nat, s.heap.size ≤ q → A q := fun q h => by rw [← hAe]; exact Or.inr h
  have hS : va_S A s.heap s.heap [] := va_S.rf
  have hl := lv_entry ([.ref m0, .int node, .int k]) (n := 10) (Nat.le_of_ble_eq_true rfl)
  rw [lg_entry_eq]
  generalize (lg_sl ([.ref m0, .int node, .int k]) ++ List.replicate (10 - (lg_sl ([.ref m0, .int node, .int k])).length) Slot.unset).toArray = ls at hl ⊢
  have hl : lv_has ls 10 [(0, .ref m0), (1, .int node), (2, .int k)] := hl
  have hinX4 : ∀ w ∈ wsX40, w ∈ wsX4_oidArc := fun _ h => List.mem_cons_of_mem _ (List.mem_append_right _ h)
  have hf_7 := hts (.fieldLink RX4 7 "DerDeskModel" "row" "[I") (by decide +kernel)
  have hf_13 := hts (.fieldLink RX4 13 "DerDeskModel" "tags" "[I") (by decide +kernel)
  have hf_16 := hts (.fieldLink RX4 16 "DerDeskModel" "starts" "[I") (by decide +kernel)
  have hf_19 := hts (.fieldLink RX4 19 "DerDeskModel" "lengths" "[I") (by decide +kernel)
  have hP : va_P (dC, dI) vwCl (wM cA m0 m1 m2 m3 m4 m5 m6 m7 m8 m9 cd row sz1 nd tg st ln pa rd of ar dp at_ rs fd pl tx ou wr op on dn) s.heap := hP
  refine lv_aload_n hx hb dX4_oidArc_0 rfl (lv_at hl 0 rfl) ?_
  refine lv_iload_n hx hb dX4_oidArc_1 rfl (lv_at hl 1 rfl) ?_
  refine cl_Vi (As := [.int node]) (rest := []) (wr := []) ⟨hx, hb, hml, hown, hts⟩ (k_X4_isNode l dC dI cA m0 m1 m2 m3 m4 m5 m6 m7 m8 m9 cd row sz1 nd tg st ln pa rd of ar dp at_ rs fd pl tx ou wr op on dn node _ (by omega)) (cwV 1 hts gX4_oidArc_X4_isNode rfl rfl rfl (by decide +kernel) ⟨Nat.le_of_ble_eq_true rfl, Nat.le_of_ble_eq_true rfl⟩) hK hP hD hS hA [0, 1, 2, 3, 4, 5, 6, 7, 8, 9] [] rfl rfl (by decide) (by decide) (by decide) (ci := 3) (q0 := 0) rfl rfl rfl rfl hl.1 rfl (Nat.le_of_ble_eq_true rfl) dX4_oidArc_2 ⟨Nat.le_of_ble_eq_true rfl, Nat.le_of_ble_eq_true rfl⟩ (fun r_1 u_1 H locs hw_1 hP hD hS => ?_)
  obtain ⟨cd2_1, eu_1⟩ : ∃ z, z = u_1 := ⟨_, rfl⟩
  subst eu_1
  have hP : va_P (dC, dI) vwCl (wM cA m0 m1 m2 m3 m4 m5 m6 m7 m8 m9 cd2_1 row sz1 nd tg st ln pa rd of ar dp at_ rs fd pl tx ou wr op on dn) H := hP
  have hD : va_D A (wM cA m0 m1 m2 m3 m4 m5 m6 m7 m8 m9 cd2_1 row sz1 nd tg st ln pa rd of ar dp at_ rs fd pl tx ou wr op on dn) := hD
  have hw_1 : (r_1 = if isNm rd nd node then 1 else 0) ∧ cd2_1 = nI 0 := hw_1
  obtain ⟨e0_1, e1_1⟩ := hw_1
  have e0_1 := e0_1.symm
  subst e0_1
  have e1_1 := e1_1.symm
  subst e1_1
  refine hl_ifb_eq (tgt := 23) hx hb dX4_oidArc_5 (by decide) (fun c_2 => ?_) (fun c_2 => ?_)
  · refine lv_iconst (v := (-1)) hx hb dX4_oidArc_23 (by decide) ?_
    have hP9 : va_P (dC, dI) vwCl (vX4_oidArc cA m0 m1 m2 m3 m4 m5 m6 m7 m8 m9 cd row sz1 nd tg st ln pa rd of ar dp at_ rs fd pl tx ou wr op on dn node k (nI 0)) _ := hP
    have hD9 : va_D A (vX4_oidArc cA m0 m1 m2 m3 m4 m5 m6 m7 m8 m9 cd row sz1 nd tg st ln pa rd of ar dp at_ rs fd pl tx ou wr op on dn node k (nI 0)) := hD
    have hq9 : pX4_oidArc m0 m1 m2 m3 m4 m5 m6 m7 m8 m9 cd row sz1 nd tg st ln pa rd of ar dp at_ rs fd pl tx ou wr op on dn node k ((-1)) (nI 0) := ⟨(if_neg (fun h => by first | exact absurd h.1 (by assumption) | exact absurd h.2.1 (by assumption) | exact absurd (by assumption : 0 ≤ k) (fun z => h.2.2 (by exact Int32.not_le.mp z)) | grind)).symm, rfl⟩
    exact W.iret (v := (-1)) hx hb hr (fun t ht hW => ⟨⟨(-1), (nI 0), rfl, hq9, by rw [ht]; exact hP9, va_K.moved hW.alike hK, hD9⟩, hS.F ht⟩) hS.2.2 dX4_oidArc_24
  · refine lv_aload_n hx hb dX4_oidArc_8 rfl (lv_at hl 0 rfl) ?_
    refine va_get (D := (dC, dI)) (ci := 3) (v := .ref m2) (C := RX4) (T := TX4) (N := 22) hx hb hts hinX4 hown hK hP 0 rfl rfl 4 (by decide) hf_13 (fun _ h9 => h9) rfl dX4_oidArc_9 ?_
    refine lv_iload_n hx hb dX4_oidArc_12 rfl (lv_at hl 1 rfl) ?_
    have hq := (‹isNm rd nd node›).2
    have hnl := cl_lt hq.1 (by omega) hq.2
    refine hl_top (cl_of hq.1) ?_
    refine hl_iald hx hb hK hP 2 0 rfl rfl (by omega) (by decide) dX4_oidArc_13 ?_
    have hv_3 := htg node.toNatClampNeg
    refine lv_bipush (v := nI 6) hx hb dX4_oidArc_14 (by decide) ?_
    refine hl_icmp_ne (tgt := 23) hx hb dX4_oidArc_16 (by decide) (by omega) (by omega) (fun c_4 => ?_) (fun c_4 => ?_)
    · refine lv_iconst (v := (-1)) hx hb dX4_oidArc_23 (by decide) ?_
      have hP9 : va_P (dC, dI) vwCl (vX4_oidArc cA m0 m1 m2 m3 m4 m5 m6 m7 m8 m9 cd row sz1 nd tg st ln pa rd of ar dp at_ rs fd pl tx ou wr op on dn node k (nI 0)) _ := hP
      have hD9 : va_D A (vX4_oidArc cA m0 m1 m2 m3 m4 m5 m6 m7 m8 m9 cd row sz1 nd tg st ln pa rd of ar dp at_ rs fd pl tx ou wr op on dn node k (nI 0)) := hD
      have hq9 : pX4_oidArc m0 m1 m2 m3 m4 m5 m6 m7 m8 m9 cd row sz1 nd tg st ln pa rd of ar dp at_ rs fd pl tx ou wr op on dn node k ((-1)) (nI 0) := ⟨(if_neg (fun h => by first | exact absurd h.1 (by assumption) | exact absurd h.2.1 (by assumption) | exact absurd (by assumption : 0 ≤ k) (fun z => h.2.2 (by exact Int32.not_le.mp z)) | grind)).symm, rfl⟩
      exact W.iret (v := (-1)) hx hb hr (fun t ht hW => ⟨⟨(-1), (nI 0), rfl, hq9, by rw [ht]; exact hP9, va_K.moved hW.alike hK, hD9⟩, hS.F ht⟩) hS.2.2 dX4_oidArc_24
    · refine lv_iload_n hx hb dX4_oidArc_19 rfl (lv_at hl 2 rfl) ?_
      refine lv_if_ge (tgt := 25) hx hb dX4_oidArc_20 (by decide) (fun c_5 => ?_) (fun c_5 => ?_)
      · have hnm := ‹isNm rd nd node›
        have hq := hnm.2
        have hnl := cl_lt hq.1 (by omega) hq.2
        have hse1 := (hse hnm.1 _ hnl).1
        have hk0 : ¬ k < 0 := Int32.not_lt.mpr (by assumption)
        have hne : node = nI node.toNatClampNeg := cl_of hq.1
        have hke : k = nI k.toNatClampNeg := cl_of hk0
        have hkb := cl_b k
        obtain ⟨ix, hix⟩ : ∃ z, z = (if k.toNatClampNeg < 2 then 0 else k.toNatClampNeg - 1) := ⟨_, rfl⟩
        have hix2 : (k.toNatClampNeg < 2 ∧ ix = 0) ∨ (2 ≤ k.toNatClampNeg ∧ ix = k.toNatClampNeg - 1) := by rw [hix]; split <;> omega
        have hl : lv_has ls 10 [(0, .ref m0), (1, .int (nI node.toNatClampNeg)), (2, .int (nI k.toNatClampNeg))] := by rw [← hne, ← hke]; exact hl
        refine lv_iconst (v := nI 0) hx hb dX4_oidArc_25 (by decide) ?_
        refine lv_istore_n (lv' := [(3, .int (nI 0)), (0, .ref m0), (1, .int (nI node.toNatClampNeg)), (2, .int (nI k.toNatClampNeg))]) hx hb dX4_oidArc_26 rfl hl (by decide) rfl (fun ls hl => ?_)
        refine lv_lconst (v := lN 0) hx hb dX4_oidArc_27 (by decide) ?_
        refine lv_lstore (lv' := [(4, .long (lN 0)), (3, .int (nI 0)), (0, .ref m0), (1, .int (nI node.toNatClampNeg)), (2, .int (nI k.toNatClampNeg))]) hx hb dX4_oidArc_28 hl (by decide) rfl (fun ls hl => ?_)
        refine lv_iconst (v := nI 0) hx hb dX4_oidArc_30 (by decide) ?_
        refine lv_istore (lv' := [(6, .int (nI 0)), (4, .long (lN 0)), (3, .int (nI 0)), (0, .ref m0), (1, .int (nI node.toNatClampNeg)), (2, .int (nI k.toNatClampNeg))]) hx hb dX4_oidArc_31 hl (by decide) rfl (fun ls hl => ?_)
        have lp_33 : ∀ (nf : Nat) (i : Nat) (ac : Nat) (vv : Nat) (cu : Nat), ln node.toNatClampNeg - i < nf → (i ≤ ln node.toNatClampNeg) → (ac = 0 ∨ 2 ≤ ac) → (ac ≤ i + 1) → (capR vv cu) → (partS row (st node.toNatClampNeg + ln node.toNatClampNeg) (st node.toNatClampNeg + ln node.toNatClampNeg - (st node.toNatClampNeg + i)) cu (ac - 1) ix = partS row (st node.toNatClampNeg + ln node.toNatClampNeg) (ln node.toNatClampNeg) 0 0 ix) → ∀ (H : Heap) (locs : List Loc) (ls : Array Slot), va_P (dC, dI) vwCl (wM cA m0 m1 m2 m3 m4 m5 m6 m7 m8 m9 (nI 0) row sz1 nd tg st ln pa rd of ar dp at_ rs fd pl tx ou wr op on dn) H → va_D A (wM cA m0 m1 m2 m3 m4 m5 m6 m7 m8 m9 (nI 0) row sz1 nd tg st ln pa rd of ar dp at_ rs fd pl tx ou wr op on dn) → va_S A s.heap H locs → lv_has ls 10 [(6, .int (nI i)), (4, .long (lN vv)), (3, .int (nI ac)), (0, .ref m0), (1, .int (nI node.toNatClampNeg)), (2, .int (nI k.toNatClampNeg))] → W p l e (headSpec wsX4_oidArc ({ frames := 1, cells := 0, slots := 0, locals := 21 } : Room)).room s m ([.ref m0, .int node, .int k] : List Value).toArray below meth c H locs 0 0 (MQ below (qX4_oidArc dC dI cA A m0 m1 m2 m3 m4 m5 m6 m7 m8 m9 cd row sz1 nd tg st ln pa rd of ar dp at_ rs fd pl tx ou wr op on dn node k) ([.ref m0, .int node, .int k] : List Value).toArray s 0 0 A) (F0 m 33 ls []) := by
          intro nf
          induction nf with
          | zero =>
            intro i ac vv cu hm
            exact absurd hm (Nat.not_lt_zero _)
          | succ nf ih_33 =>
            intro i ac vv cu hm hi hac hac2 hcap hinv H locs ls hP hD hS hl
            have hc0 := hcap.1
            refine lv_iload hx hb dX4_oidArc_33 (lv_at hl 0 rfl) ?_
            refine lv_aload_n hx hb dX4_oidArc_35 rfl (lv_at hl 3 rfl) ?_
            refine va_get (D := (dC, dI)) (ci := 3) (v := .ref m4) (C := RX4) (T := TX4) (N := 22) hx hb hts hinX4 hown hK hP 0 rfl rfl 6 (by decide) hf_19 (fun _ h9 => h9) rfl dX4_oidArc_36 ?_
            refine lv_iload_n hx hb dX4_oidArc_39 rfl (lv_at hl 4 rfl) ?_
            refine hl_iald hx hb hK hP 4 0 rfl rfl (by omega) (by decide) dX4_oidArc_40 ?_
            refine hl_icmp_ge (tgt := 191) hx hb dX4_oidArc_41 (by decide) (by omega) (by omega) (fun c_7 => ?_) (fun c_7 => ?_)
            · refine lv_iconst (v := (-1)) hx hb dX4_oidArc_191 (by decide) ?_
              have hP9 : va_P (dC, dI) vwCl (vX4_oidArc cA m0 m1 m2 m3 m4 m5 m6 m7 m8 m9 cd row sz1 nd tg st ln pa rd of ar dp at_ rs fd pl tx ou wr op on dn node k (nI 0)) _ := hP
              have hD9 : va_D A (vX4_oidArc cA m0 m1 m2 m3 m4 m5 m6 m7 m8 m9 cd row sz1 nd tg st ln pa rd of ar dp at_ rs fd pl tx ou wr op on dn node k (nI 0)) := hD
              have hq9 : pX4_oidArc m0 m1 m2 m3 m4 m5 m6 m7 m8 m9 cd row sz1 nd tg st ln pa rd of ar dp at_ rs fd pl tx ou wr op on dn node k ((-1)) (nI 0) := ⟨(by show _ = if _ then _ else _; rw [if_pos ⟨hnm, by assumption, hk0⟩]; unfold oidS; rw [← hix]; rw [← hinv, show st node.toNatClampNeg + ln node.toNatClampNeg - (st node.toNatClampNeg + i) = 0 by omega]; rfl), rfl⟩
              exact W.iret (v := (-1)) hx hb hr (fun t ht hW => ⟨⟨(-1), (nI 0), rfl, hq9, by rw [ht]; exact hP9, va_K.moved hW.alike hK, hD9⟩, hS.F ht⟩) hS.2.2 dX4_oidArc_192
            · refine lv_aload_n hx hb dX4_oidArc_44 rfl (lv_at hl 3 rfl) ?_
              refine va_get (D := (dC, dI)) (ci := 3) (v := .ref m1) (C := RX4) (T := TX4) (N := 22) hx hb hts hinX4 hown hK hP 0 rfl rfl 1 (by decide) hf_7 (fun _ h9 => h9) rfl dX4_oidArc_45 ?_
              refine lv_aload_n hx hb dX4_oidArc_48 rfl (lv_at hl 3 rfl) ?_
              refine va_get (D := (dC, dI)) (ci := 3) (v := .ref m3) (C := RX4) (T := TX4) (N := 22) hx hb hts hinX4 hown hK hP 0 rfl rfl 5 (by decide) hf_16 (fun _ h9 => h9) rfl dX4_oidArc_49 ?_
              refine lv_iload_n hx hb dX4_oidArc_52 rfl (lv_at hl 4 rfl) ?_
              refine hl_iald hx hb hK hP 3 0 rfl rfl (by omega) (by decide) dX4_oidArc_53 ?_
              refine lv_iload hx hb dX4_oidArc_54 (lv_at hl 0 rfl) ?_
              refine hl_iadd hx hb dX4_oidArc_56 ?_
              refine hl_iald hx hb hK hP 1 0 rfl rfl (by omega) (by decide) dX4_oidArc_57 ?_
              have hv_8 := hrow ((st node.toNatClampNeg) + i)
              refine lv_istore (lv' := [(7, .int (nI (row ((st node.toNatClampNeg) + i)))), (6, .int (nI i)), (4, .long (lN vv)), (3, .int (nI ac)), (0, .ref m0), (1, .int (nI node.toNatClampNeg)), (2, .int (nI k.toNatClampNeg))]) hx hb dX4_oidArc_58 hl (by decide) rfl (fun ls hl => ?_)
              refine lv_lload hx hb dX4_oidArc_60 (lv_at hl 2 rfl) ?_
              refine lv_ldc2 (v := 1000000000000) hx hb hown (hts (.constantLong RX4 97 (1000000000000)) (by decide +kernel)) dX4_oidArc_62 ?_
              rw [show (1000000000000 : Int64) = lN 1000000000000 from rfl]
              refine W.lcmp hx hb dX4_oidArc_65 ?_
              refine lv_if_le (tgt := 74) hx hb dX4_oidArc_66 (by decide) (fun c_9 => ?_) (fun c_9 => ?_)
              · have c_9 := lle_t (by omega) (by omega) c_9
                refine lv_ldc2 (v := 128) hx hb hown (hts (.constantLong RX4 99 (128)) (by decide +kernel)) dX4_oidArc_74 ?_
                rw [show (128 : Int64) = lN 128 from rfl]
                refine lv_lload hx hb dX4_oidArc_77 (lv_at hl 2 rfl) ?_
                refine lv_lmul hx hb dX4_oidArc_79 ?_
                refine lv_iload hx hb dX4_oidArc_80 (lv_at hl 0 rfl) ?_
                refine lv_sipush (v := nI 128) hx hb dX4_oidArc_82 (by decide) ?_
                refine lv_irem hx hb dX4_oidArc_85 (by decide) ?_
                refine lv_i2l (v := ((nI (row ((st node.toNatClampNeg) + i)) - nI (row ((st node.toNatClampNeg) + i)) / nI 128 * nI 128)).toInt64) hx hb dX4_oidArc_86 rfl ?_
                refine lv_ladd hx hb dX4_oidArc_87 ?_
                refine hl_topl (ref_step (p := vv) (by omega) (hrow _)) ?_
                have hcap2 : capR (vv * 128 + row (st node.toNatClampNeg + i) % 128) (cu * 128 + row (st node.toNatClampNeg + i) % 128) := capR_go hcap (by omega) (Nat.mod_lt _ (by decide))
                have hc1 := hcap2.1
                refine lv_lstore (lv' := [(4, .long (lN (vv * 128 + row (st node.toNatClampNeg + i) % 128))), (7, .int (nI (row ((st node.toNatClampNeg) + i)))), (6, .int (nI i)), (3, .int (nI ac)), (0, .ref m0), (1, .int (nI node.toNatClampNeg)), (2, .int (nI k.toNatClampNeg))]) hx hb dX4_oidArc_88 hl (by decide) rfl (fun ls hl => ?_)
                refine lv_iload hx hb dX4_oidArc_90 (lv_at hl 1 rfl) ?_
                refine lv_bipush (v := nI 127) hx hb dX4_oidArc_92 (by decide) ?_
                refine hl_icmp_le (tgt := 100) hx hb dX4_oidArc_94 (by decide) (by omega) (by omega) (fun c_10 => ?_) (fun c_10 => ?_)
                · refine lv_iload_n hx hb dX4_oidArc_100 rfl (lv_at hl 3 rfl) ?_
                  refine hl_if_ne (tgt := 156) hx hb dX4_oidArc_101 (by decide) (by omega) (fun c_11 => ?_) (fun c_11 => ?_)
                  · refine lv_iload_n hx hb dX4_oidArc_156 rfl (lv_at hl 3 rfl) ?_
                    refine lv_iload_n hx hb dX4_oidArc_157 rfl (lv_at hl 6 rfl) ?_
                    refine hl_icmp_ne (tgt := 179) hx hb dX4_oidArc_158 (by decide) (by omega) (by omega) (fun c_12 => ?_) (fun c_12 => ?_)
                    · refine lv_iinc (v := (nI (ac + 1))) (lv' := [(3, .int (nI (ac + 1))), (4, .long (lN (vv * 128 + row (st node.toNatClampNeg + i) % 128))), (7, .int (nI (row ((st node.toNatClampNeg) + i)))), (6, .int (nI i)), (0, .ref m0), (1, .int (nI node.toNatClampNeg)), (2, .int (nI k.toNatClampNeg))]) hx hb dX4_oidArc_179 hl (k := 3) rfl (nI_inc ac 1) (by decide) rfl (fun ls hl => ?_)
                      refine lv_lconst (v := lN 0) hx hb dX4_oidArc_182 (by decide) ?_
                      refine lv_lstore (lv' := [(4, .long (lN 0)), (3, .int (nI (ac + 1))), (7, .int (nI (row ((st node.toNatClampNeg) + i)))), (6, .int (nI i)), (0, .ref m0), (1, .int (nI node.toNatClampNeg)), (2, .int (nI k.toNatClampNeg))]) hx hb dX4_oidArc_183 hl (by decide) rfl (fun ls hl => ?_)
                      refine lv_iinc (v := (nI (i + 1))) (lv' := [(6, .int (nI (i + 1))), (4, .long (lN 0)), (3, .int (nI (ac + 1))), (7, .int (nI (row ((st node.toNatClampNeg) + i)))), (0, .ref m0), (1, .int (nI node.toNatClampNeg)), (2, .int (nI k.toNatClampNeg))]) hx hb dX4_oidArc_185 hl (k := 3) rfl (nI_inc i 1) (by decide) rfl (fun ls hl => ?_)
                      refine lv_goto (tgt := 33) hx hb dX4_oidArc_188 (by decide) ?_
                      exact ih_33 (i + 1) (ac + 1) 0 0 (by omega) (by omega) (by omega) (by omega) (by first | exact capR_0 | exact hcap2) (by first | (exfalso; omega) | (rw [← hinv, partS_at (i := st node.toNatClampNeg + i) (by omega), show st node.toNatClampNeg + (i + 1) = st node.toNatClampNeg + i + 1 by omega]; first | rw [if_neg (show ¬ row (st node.toNatClampNeg + i) < 128 by omega)] | (rw [if_pos (show row (st node.toNatClampNeg + i) < 128 by omega), if_neg (by omega)]; congr 1; omega))) _ _ _ hP hD hS (lv_sub hl [0, 1, 2, 4, 5, 6] rfl)
                    · refine lv_lload hx hb dX4_oidArc_161 (lv_at hl 0 rfl) ?_
                      refine lv_ldc2 (v := 2147483647) hx hb hown (hts (.constantLong RX4 107 (2147483647)) (by decide +kernel)) dX4_oidArc_163 ?_
                      rw [show (2147483647 : Int64) = lN 2147483647 from rfl]
                      refine W.lcmp hx hb dX4_oidArc_166 ?_
                      refine lv_if_le (tgt := 175) hx hb dX4_oidArc_167 (by decide) (fun c_13 => ?_) (fun c_13 => ?_)
                      · have c_13 := lle_t (by omega) (by omega) c_13
                        refine lv_lload hx hb dX4_oidArc_175 (lv_at hl 0 rfl) ?_
                        refine lv_l2i (v := (lN (vv * 128 + row (st node.toNatClampNeg + i) % 128)).toInt32) hx hb dX4_oidArc_177 rfl ?_
                        have hP9 : va_P (dC, dI) vwCl (vX4_oidArc cA m0 m1 m2 m3 m4 m5 m6 m7 m8 m9 cd row sz1 nd tg st ln pa rd of ar dp at_ rs fd pl tx ou wr op on dn node k (nI 0)) _ := hP
                        have hD9 : va_D A (vX4_oidArc cA m0 m1 m2 m3 m4 m5 m6 m7 m8 m9 cd row sz1 nd tg st ln pa rd of ar dp at_ rs fd pl tx ou wr op on dn node k (nI 0)) := hD
                        have hq9 : pX4_oidArc m0 m1 m2 m3 m4 m5 m6 m7 m8 m9 cd row sz1 nd tg st ln pa rd of ar dp at_ rs fd pl tx ou wr op on dn node k (((lN (vv * 128 + row (st node.toNatClampNeg + i) % 128)).toInt32)) (nI 0) := ⟨(by first | (exfalso; omega) | (show _ = if _ then _ else _; rw [if_pos ⟨hnm, by assumption, hk0⟩]; unfold oidS; rw [← hix]; rw [← hinv, partS_at (i := st node.toNatClampNeg + i) (by omega), if_pos (show row (st node.toNatClampNeg + i) < 128 by omega), if_pos (by omega), arcR_of hcap2]; unfold arcV; (first | rw [if_pos (show k.toNatClampNeg = 0 by omega)] | rw [if_neg (show ¬ k.toNatClampNeg = 0 by omega), if_pos (show k.toNatClampNeg = 1 by omega)] | rw [if_neg (show ¬ k.toNatClampNeg = 0 by omega), if_neg (show ¬ k.toNatClampNeg = 1 by omega)]); (try rw [hfst]); first | rw [if_pos (by omega)] | (rw [if_neg (by omega)]; exact lN_i _))), rfl⟩
                        exact W.iret (v := ((lN (vv * 128 + row (st node.toNatClampNeg + i) % 128)).toInt32)) hx hb hr (fun t ht hW => ⟨⟨((lN (vv * 128 + row (st node.toNatClampNeg + i) % 128)).toInt32), (nI 0), rfl, hq9, by rw [ht]; exact hP9, va_K.moved hW.alike hK, hD9⟩, hS.F ht⟩) hS.2.2 dX4_oidArc_178
                      · have c_13 := lle_f (by omega) (by omega) c_13
                        refine lv_bipush (v := (-2)) hx hb dX4_oidArc_170 (by decide) ?_
                        refine lv_goto (tgt := 178) hx hb dX4_oidArc_172 (by decide) ?_
                        have hP9 : va_P (dC, dI) vwCl (vX4_oidArc cA m0 m1 m2 m3 m4 m5 m6 m7 m8 m9 cd row sz1 nd tg st ln pa rd of ar dp at_ rs fd pl tx ou wr op on dn node k (nI 0)) _ := hP
                        have hD9 : va_D A (vX4_oidArc cA m0 m1 m2 m3 m4 m5 m6 m7 m8 m9 cd row sz1 nd tg st ln pa rd of ar dp at_ rs fd pl tx ou wr op on dn node k (nI 0)) := hD
                        have hq9 : pX4_oidArc m0 m1 m2 m3 m4 m5 m6 m7 m8 m9 cd row sz1 nd tg st ln pa rd of ar dp at_ rs fd pl tx ou wr op on dn node k ((-2)) (nI 0) := ⟨(by first | (exfalso; omega) | (show _ = if _ then _ else _; rw [if_pos ⟨hnm, by assumption, hk0⟩]; unfold oidS; rw [← hix]; rw [← hinv, partS_at (i := st node.toNatClampNeg + i) (by omega), if_pos (show row (st node.toNatClampNeg + i) < 128 by omega), if_pos (by omega), arcR_of hcap2]; unfold arcV; (first | rw [if_pos (show k.toNatClampNeg = 0 by omega)] | rw [if_neg (show ¬ k.toNatClampNeg = 0 by omega), if_pos (show k.toNatClampNeg = 1 by omega)] | rw [if_neg (show ¬ k.toNatClampNeg = 0 by omega), if_neg (show ¬ k.toNatClampNeg = 1 by omega)]); (try rw [hfst]); first | rw [if_pos (by omega)] | (rw [if_neg (by omega)]; exact lN_i _))), rfl⟩
                        exact W.iret (v := (-2)) hx hb hr (fun t ht hW => ⟨⟨(-2), (nI 0), rfl, hq9, by rw [ht]; exact hP9, va_K.moved hW.alike hK, hD9⟩, hS.F ht⟩) hS.2.2 dX4_oidArc_178
                  · refine lv_lload hx hb dX4_oidArc_104 (lv_at hl 0 rfl) ?_
                    refine lv_ldc2 (v := 40) hx hb hown (hts (.constantLong RX4 101 (40)) (by decide +kernel)) dX4_oidArc_106 ?_
                    rw [show (40 : Int64) = lN 40 from rfl]
                    refine W.lcmp hx hb dX4_oidArc_109 ?_
                    refine lv_if_ge (tgt := 117) hx hb dX4_oidArc_110 (by decide) (fun c_14 => ?_) (fun c_14 => ?_)
                    · have c_14 := lge_t (by omega) (by omega) c_14
                      refine lv_lload hx hb dX4_oidArc_117 (lv_at hl 0 rfl) ?_
                      refine lv_ldc2 (v := 80) hx hb hown (hts (.constantLong RX4 103 (80)) (by decide +kernel)) dX4_oidArc_119 ?_
                      rw [show (80 : Int64) = lN 80 from rfl]
                      refine W.lcmp hx hb dX4_oidArc_122 ?_
                      refine lv_if_ge (tgt := 130) hx hb dX4_oidArc_123 (by decide) (fun c_15 => ?_) (fun c_15 => ?_)
                      · have c_15 := lge_t (by omega) (by omega) c_15
                        refine lv_ldc2 (v := 2) hx hb hown (hts (.constantLong RX4 105 (2)) (by decide +kernel)) dX4_oidArc_130 ?_
                        rw [show (2 : Int64) = lN 2 from rfl]
                        have hfst : fst1 (vv * 128 + row (st node.toNatClampNeg + i) % 128) = 2 := by first | (exfalso; omega) | (unfold fst1; first | rw [if_pos (by omega)] | rw [if_neg (by omega), if_pos (by omega)] | rw [if_neg (by omega), if_neg (by omega)])
                        refine lv_lstore (lv' := [(8, .long (lN 2)), (4, .long (lN (vv * 128 + row (st node.toNatClampNeg + i) % 128))), (7, .int (nI (row ((st node.toNatClampNeg) + i)))), (6, .int (nI i)), (3, .int (nI ac)), (0, .ref m0), (1, .int (nI node.toNatClampNeg)), (2, .int (nI k.toNatClampNeg))]) hx hb dX4_oidArc_133 hl (by decide) rfl (fun ls hl => ?_)
                        refine lv_iload_n hx hb dX4_oidArc_135 rfl (lv_at hl 7 rfl) ?_
                        refine hl_if_ne (tgt := 143) hx hb dX4_oidArc_136 (by decide) (by omega) (fun c_16 => ?_) (fun c_16 => ?_)
                        · refine lv_lload hx hb dX4_oidArc_143 (lv_at hl 1 rfl) ?_
                          refine lv_ldc2 (v := 40) hx hb hown (hts (.constantLong RX4 101 (40)) (by decide +kernel)) dX4_oidArc_145 ?_
                          rw [show (40 : Int64) = lN 40 from rfl]
                          refine lv_lload hx hb dX4_oidArc_148 (lv_at hl 0 rfl) ?_
                          refine lv_lmul hx hb dX4_oidArc_150 ?_
                          refine lv_lsub hx hb dX4_oidArc_151 ?_
                          refine hl_topl (show _ = lN (vv * 128 + row (st node.toNatClampNeg + i) % 128 - 40 * 2) by rw [lN_mul, lN_sub (by omega)]) ?_
                          refine lv_lstore (lv' := [(4, .long (lN ((vv * 128 + row (st node.toNatClampNeg + i) % 128) - 40 * 2))), (8, .long (lN 2)), (7, .int (nI (row ((st node.toNatClampNeg) + i)))), (6, .int (nI i)), (3, .int (nI ac)), (0, .ref m0), (1, .int (nI node.toNatClampNeg)), (2, .int (nI k.toNatClampNeg))]) hx hb dX4_oidArc_152 hl (by decide) rfl (fun ls hl => ?_)
                          refine lv_iconst (v := nI 1) hx hb dX4_oidArc_154 (by decide) ?_
                          refine lv_istore_n (lv' := [(3, .int (nI 1)), (4, .long (lN ((vv * 128 + row (st node.toNatClampNeg + i) % 128) - 40 * 2))), (8, .long (lN 2)), (7, .int (nI (row ((st node.toNatClampNeg) + i)))), (6, .int (nI i)), (0, .ref m0), (1, .int (nI node.toNatClampNeg)), (2, .int (nI k.toNatClampNeg))]) hx hb dX4_oidArc_155 rfl hl (by decide) rfl (fun ls hl => ?_)
                          refine lv_iload_n hx hb dX4_oidArc_156 rfl (lv_at hl 0 rfl) ?_
                          refine lv_iload_n hx hb dX4_oidArc_157 rfl (lv_at hl 7 rfl) ?_
                          refine hl_icmp_ne (tgt := 179) hx hb dX4_oidArc_158 (by decide) (by omega) (by omega) (fun c_17 => ?_) (fun c_17 => ?_)
                          · refine lv_iinc (v := (nI 2)) (lv' := [(3, .int (nI 2)), (4, .long (lN ((vv * 128 + row (st node.toNatClampNeg + i) % 128) - 40 * 2))), (8, .long (lN 2)), (7, .int (nI (row ((st node.toNatClampNeg) + i)))), (6, .int (nI i)), (0, .ref m0), (1, .int (nI node.toNatClampNeg)), (2, .int (nI k.toNatClampNeg))]) hx hb dX4_oidArc_179 hl (k := 0) rfl (by decide) (by decide) rfl (fun ls hl => ?_)
                            refine lv_lconst (v := lN 0) hx hb dX4_oidArc_182 (by decide) ?_
                            refine lv_lstore (lv' := [(4, .long (lN 0)), (3, .int (nI 2)), (8, .long (lN 2)), (7, .int (nI (row ((st node.toNatClampNeg) + i)))), (6, .int (nI i)), (0, .ref m0), (1, .int (nI node.toNatClampNeg)), (2, .int (nI k.toNatClampNeg))]) hx hb dX4_oidArc_183 hl (by decide) rfl (fun ls hl => ?_)
                            refine lv_iinc (v := (nI (i + 1))) (lv' := [(6, .int (nI (i + 1))), (4, .long (lN 0)), (3, .int (nI 2)), (8, .long (lN 2)), (7, .int (nI (row ((st node.toNatClampNeg) + i)))), (0, .ref m0), (1, .int (nI node.toNatClampNeg)), (2, .int (nI k.toNatClampNeg))]) hx hb dX4_oidArc_185 hl (k := 4) rfl (nI_inc i 1) (by decide) rfl (fun ls hl => ?_)
                            refine lv_goto (tgt := 33) hx hb dX4_oidArc_188 (by decide) ?_
                            exact ih_33 (i + 1) 2 0 0 (by omega) (by omega) (by omega) (by omega) (by first | exact capR_0 | exact hcap2) (by first | (exfalso; omega) | (rw [← hinv, partS_at (i := st node.toNatClampNeg + i) (by omega), show st node.toNatClampNeg + (i + 1) = st node.toNatClampNeg + i + 1 by omega]; first | rw [if_neg (show ¬ row (st node.toNatClampNeg + i) < 128 by omega)] | (rw [if_pos (show row (st node.toNatClampNeg + i) < 128 by omega), if_neg (by omega)]; congr 1; omega))) _ _ _ hP hD hS (lv_sub hl [0, 1, 2, 5, 6, 7] rfl)
                          · refine lv_lload hx hb dX4_oidArc_161 (lv_at hl 1 rfl) ?_
                            refine lv_ldc2 (v := 2147483647) hx hb hown (hts (.constantLong RX4 107 (2147483647)) (by decide +kernel)) dX4_oidArc_163 ?_
                            rw [show (2147483647 : Int64) = lN 2147483647 from rfl]
                            refine W.lcmp hx hb dX4_oidArc_166 ?_
                            refine lv_if_le (tgt := 175) hx hb dX4_oidArc_167 (by decide) (fun c_18 => ?_) (fun c_18 => ?_)
                            · have c_18 := lle_t (by omega) (by omega) c_18
                              refine lv_lload hx hb dX4_oidArc_175 (lv_at hl 1 rfl) ?_
                              refine lv_l2i (v := (lN ((vv * 128 + row (st node.toNatClampNeg + i) % 128) - 40 * 2)).toInt32) hx hb dX4_oidArc_177 rfl ?_
                              have hP9 : va_P (dC, dI) vwCl (vX4_oidArc cA m0 m1 m2 m3 m4 m5 m6 m7 m8 m9 cd row sz1 nd tg st ln pa rd of ar dp at_ rs fd pl tx ou wr op on dn node k (nI 0)) _ := hP
                              have hD9 : va_D A (vX4_oidArc cA m0 m1 m2 m3 m4 m5 m6 m7 m8 m9 cd row sz1 nd tg st ln pa rd of ar dp at_ rs fd pl tx ou wr op on dn node k (nI 0)) := hD
                              have hq9 : pX4_oidArc m0 m1 m2 m3 m4 m5 m6 m7 m8 m9 cd row sz1 nd tg st ln pa rd of ar dp at_ rs fd pl tx ou wr op on dn node k (((lN ((vv * 128 + row (st node.toNatClampNeg + i) % 128) - 40 * 2)).toInt32)) (nI 0) := ⟨(by first | (exfalso; omega) | (show _ = if _ then _ else _; rw [if_pos ⟨hnm, by assumption, hk0⟩]; unfold oidS; rw [← hix]; rw [← hinv, partS_at (i := st node.toNatClampNeg + i) (by omega), if_pos (show row (st node.toNatClampNeg + i) < 128 by omega), if_pos (by omega), arcR_of hcap2]; unfold arcV; (first | rw [if_pos (show k.toNatClampNeg = 0 by omega)] | rw [if_neg (show ¬ k.toNatClampNeg = 0 by omega), if_pos (show k.toNatClampNeg = 1 by omega)] | rw [if_neg (show ¬ k.toNatClampNeg = 0 by omega), if_neg (show ¬ k.toNatClampNeg = 1 by omega)]); (try rw [hfst]); first | rw [if_pos (by omega)] | (rw [if_neg (by omega)]; exact lN_i _))), rfl⟩
                              exact W.iret (v := ((lN ((vv * 128 + row (st node.toNatClampNeg + i) % 128) - 40 * 2)).toInt32)) hx hb hr (fun t ht hW => ⟨⟨((lN ((vv * 128 + row (st node.toNatClampNeg + i) % 128) - 40 * 2)).toInt32), (nI 0), rfl, hq9, by rw [ht]; exact hP9, va_K.moved hW.alike hK, hD9⟩, hS.F ht⟩) hS.2.2 dX4_oidArc_178
                            · have c_18 := lle_f (by omega) (by omega) c_18
                              refine lv_bipush (v := (-2)) hx hb dX4_oidArc_170 (by decide) ?_
                              refine lv_goto (tgt := 178) hx hb dX4_oidArc_172 (by decide) ?_
                              have hP9 : va_P (dC, dI) vwCl (vX4_oidArc cA m0 m1 m2 m3 m4 m5 m6 m7 m8 m9 cd row sz1 nd tg st ln pa rd of ar dp at_ rs fd pl tx ou wr op on dn node k (nI 0)) _ := hP
                              have hD9 : va_D A (vX4_oidArc cA m0 m1 m2 m3 m4 m5 m6 m7 m8 m9 cd row sz1 nd tg st ln pa rd of ar dp at_ rs fd pl tx ou wr op on dn node k (nI 0)) := hD
                              have hq9 : pX4_oidArc m0 m1 m2 m3 m4 m5 m6 m7 m8 m9 cd row sz1 nd tg st ln pa rd of ar dp at_ rs fd pl tx ou wr op on dn node k ((-2)) (nI 0) := ⟨(by first | (exfalso; omega) | (show _ = if _ then _ else _; rw [if_pos ⟨hnm, by assumption, hk0⟩]; unfold oidS; rw [← hix]; rw [← hinv, partS_at (i := st node.toNatClampNeg + i) (by omega), if_pos (show row (st node.toNatClampNeg + i) < 128 by omega), if_pos (by omega), arcR_of hcap2]; unfold arcV; (first | rw [if_pos (show k.toNatClampNeg = 0 by omega)] | rw [if_neg (show ¬ k.toNatClampNeg = 0 by omega), if_pos (show k.toNatClampNeg = 1 by omega)] | rw [if_neg (show ¬ k.toNatClampNeg = 0 by omega), if_neg (show ¬ k.toNatClampNeg = 1 by omega)]); (try rw [hfst]); first | rw [if_pos (by omega)] | (rw [if_neg (by omega)]; exact lN_i _))), rfl⟩
                              exact W.iret (v := (-2)) hx hb hr (fun t ht hW => ⟨⟨(-2), (nI 0), rfl, hq9, by rw [ht]; exact hP9, va_K.moved hW.alike hK, hD9⟩, hS.F ht⟩) hS.2.2 dX4_oidArc_178
                        · refine lv_lload hx hb dX4_oidArc_139 (lv_at hl 0 rfl) ?_
                          refine lv_l2i (v := (lN 2).toInt32) hx hb dX4_oidArc_141 rfl ?_
                          have hP9 : va_P (dC, dI) vwCl (vX4_oidArc cA m0 m1 m2 m3 m4 m5 m6 m7 m8 m9 cd row sz1 nd tg st ln pa rd of ar dp at_ rs fd pl tx ou wr op on dn node k (nI 0)) _ := hP
                          have hD9 : va_D A (vX4_oidArc cA m0 m1 m2 m3 m4 m5 m6 m7 m8 m9 cd row sz1 nd tg st ln pa rd of ar dp at_ rs fd pl tx ou wr op on dn node k (nI 0)) := hD
                          have hq9 : pX4_oidArc m0 m1 m2 m3 m4 m5 m6 m7 m8 m9 cd row sz1 nd tg st ln pa rd of ar dp at_ rs fd pl tx ou wr op on dn node k (((lN 2).toInt32)) (nI 0) := ⟨(by first | (exfalso; omega) | (show _ = if _ then _ else _; rw [if_pos ⟨hnm, by assumption, hk0⟩]; unfold oidS; rw [← hix]; rw [← hinv, partS_at (i := st node.toNatClampNeg + i) (by omega), if_pos (show row (st node.toNatClampNeg + i) < 128 by omega), if_pos (by omega), arcR_of hcap2]; unfold arcV; (first | rw [if_pos (show k.toNatClampNeg = 0 by omega)] | rw [if_neg (show ¬ k.toNatClampNeg = 0 by omega), if_pos (show k.toNatClampNeg = 1 by omega)] | rw [if_neg (show ¬ k.toNatClampNeg = 0 by omega), if_neg (show ¬ k.toNatClampNeg = 1 by omega)]); (try rw [hfst]); rw [if_neg (by omega)]; exact lN_i _)), rfl⟩
                          exact W.iret (v := ((lN 2).toInt32)) hx hb hr (fun t ht hW => ⟨⟨((lN 2).toInt32), (nI 0), rfl, hq9, by rw [ht]; exact hP9, va_K.moved hW.alike hK, hD9⟩, hS.F ht⟩) hS.2.2 dX4_oidArc_142
                      · have c_15 := lge_f (by omega) (by omega) c_15
                        refine lv_lconst (v := lN 1) hx hb dX4_oidArc_126 (by decide) ?_
                        refine lv_goto (tgt := 133) hx hb dX4_oidArc_127 (by decide) ?_
                        have hfst : fst1 (vv * 128 + row (st node.toNatClampNeg + i) % 128) = 1 := by first | (exfalso; omega) | (unfold fst1; first | rw [if_pos (by omega)] | rw [if_neg (by omega), if_pos (by omega)] | rw [if_neg (by omega), if_neg (by omega)])
                        refine lv_lstore (lv' := [(8, .long (lN 1)), (4, .long (lN (vv * 128 + row (st node.toNatClampNeg + i) % 128))), (7, .int (nI (row ((st node.toNatClampNeg) + i)))), (6, .int (nI i)), (3, .int (nI ac)), (0, .ref m0), (1, .int (nI node.toNatClampNeg)), (2, .int (nI k.toNatClampNeg))]) hx hb dX4_oidArc_133 hl (by decide) rfl (fun ls hl => ?_)
                        refine lv_iload_n hx hb dX4_oidArc_135 rfl (lv_at hl 7 rfl) ?_
                        refine hl_if_ne (tgt := 143) hx hb dX4_oidArc_136 (by decide) (by omega) (fun c_19 => ?_) (fun c_19 => ?_)
                        · refine lv_lload hx hb dX4_oidArc_143 (lv_at hl 1 rfl) ?_
                          refine lv_ldc2 (v := 40) hx hb hown (hts (.constantLong RX4 101 (40)) (by decide +kernel)) dX4_oidArc_145 ?_
                          rw [show (40 : Int64) = lN 40 from rfl]
                          refine lv_lload hx hb dX4_oidArc_148 (lv_at hl 0 rfl) ?_
                          refine lv_lmul hx hb dX4_oidArc_150 ?_
                          refine lv_lsub hx hb dX4_oidArc_151 ?_
                          refine hl_topl (show _ = lN (vv * 128 + row (st node.toNatClampNeg + i) % 128 - 40 * 1) by rw [lN_mul, lN_sub (by omega)]) ?_
                          refine lv_lstore (lv' := [(4, .long (lN ((vv * 128 + row (st node.toNatClampNeg + i) % 128) - 40 * 1))), (8, .long (lN 1)), (7, .int (nI (row ((st node.toNatClampNeg) + i)))), (6, .int (nI i)), (3, .int (nI ac)), (0, .ref m0), (1, .int (nI node.toNatClampNeg)), (2, .int (nI k.toNatClampNeg))]) hx hb dX4_oidArc_152 hl (by decide) rfl (fun ls hl => ?_)
                          refine lv_iconst (v := nI 1) hx hb dX4_oidArc_154 (by decide) ?_
                          refine lv_istore_n (lv' := [(3, .int (nI 1)), (4, .long (lN ((vv * 128 + row (st node.toNatClampNeg + i) % 128) - 40 * 1))), (8, .long (lN 1)), (7, .int (nI (row ((st node.toNatClampNeg) + i)))), (6, .int (nI i)), (0, .ref m0), (1, .int (nI node.toNatClampNeg)), (2, .int (nI k.toNatClampNeg))]) hx hb dX4_oidArc_155 rfl hl (by decide) rfl (fun ls hl => ?_)
                          refine lv_iload_n hx hb dX4_oidArc_156 rfl (lv_at hl 0 rfl) ?_
                          refine lv_iload_n hx hb dX4_oidArc_157 rfl (lv_at hl 7 rfl) ?_
                          refine hl_icmp_ne (tgt := 179) hx hb dX4_oidArc_158 (by decide) (by omega) (by omega) (fun c_20 => ?_) (fun c_20 => ?_)
                          · refine lv_iinc (v := (nI 2)) (lv' := [(3, .int (nI 2)), (4, .long (lN ((vv * 128 + row (st node.toNatClampNeg + i) % 128) - 40 * 1))), (8, .long (lN 1)), (7, .int (nI (row ((st node.toNatClampNeg) + i)))), (6, .int (nI i)), (0, .ref m0), (1, .int (nI node.toNatClampNeg)), (2, .int (nI k.toNatClampNeg))]) hx hb dX4_oidArc_179 hl (k := 0) rfl (by decide) (by decide) rfl (fun ls hl => ?_)
                            refine lv_lconst (v := lN 0) hx hb dX4_oidArc_182 (by decide) ?_
                            refine lv_lstore (lv' := [(4, .long (lN 0)), (3, .int (nI 2)), (8, .long (lN 1)), (7, .int (nI (row ((st node.toNatClampNeg) + i)))), (6, .int (nI i)), (0, .ref m0), (1, .int (nI node.toNatClampNeg)), (2, .int (nI k.toNatClampNeg))]) hx hb dX4_oidArc_183 hl (by decide) rfl (fun ls hl => ?_)
                            refine lv_iinc (v := (nI (i + 1))) (lv' := [(6, .int (nI (i + 1))), (4, .long (lN 0)), (3, .int (nI 2)), (8, .long (lN 1)), (7, .int (nI (row ((st node.toNatClampNeg) + i)))), (0, .ref m0), (1, .int (nI node.toNatClampNeg)), (2, .int (nI k.toNatClampNeg))]) hx hb dX4_oidArc_185 hl (k := 4) rfl (nI_inc i 1) (by decide) rfl (fun ls hl => ?_)
                            refine lv_goto (tgt := 33) hx hb dX4_oidArc_188 (by decide) ?_
                            exact ih_33 (i + 1) 2 0 0 (by omega) (by omega) (by omega) (by omega) (by first | exact capR_0 | exact hcap2) (by first | (exfalso; omega) | (rw [← hinv, partS_at (i := st node.toNatClampNeg + i) (by omega), show st node.toNatClampNeg + (i + 1) = st node.toNatClampNeg + i + 1 by omega]; first | rw [if_neg (show ¬ row (st node.toNatClampNeg + i) < 128 by omega)] | (rw [if_pos (show row (st node.toNatClampNeg + i) < 128 by omega), if_neg (by omega)]; congr 1; omega))) _ _ _ hP hD hS (lv_sub hl [0, 1, 2, 5, 6, 7] rfl)
                          · refine lv_lload hx hb dX4_oidArc_161 (lv_at hl 1 rfl) ?_
                            refine lv_ldc2 (v := 2147483647) hx hb hown (hts (.constantLong RX4 107 (2147483647)) (by decide +kernel)) dX4_oidArc_163 ?_
                            rw [show (2147483647 : Int64) = lN 2147483647 from rfl]
                            refine W.lcmp hx hb dX4_oidArc_166 ?_
                            refine lv_if_le (tgt := 175) hx hb dX4_oidArc_167 (by decide) (fun c_21 => ?_) (fun c_21 => ?_)
                            · have c_21 := lle_t (by omega) (by omega) c_21
                              refine lv_lload hx hb dX4_oidArc_175 (lv_at hl 1 rfl) ?_
                              refine lv_l2i (v := (lN ((vv * 128 + row (st node.toNatClampNeg + i) % 128) - 40 * 1)).toInt32) hx hb dX4_oidArc_177 rfl ?_
                              have hP9 : va_P (dC, dI) vwCl (vX4_oidArc cA m0 m1 m2 m3 m4 m5 m6 m7 m8 m9 cd row sz1 nd tg st ln pa rd of ar dp at_ rs fd pl tx ou wr op on dn node k (nI 0)) _ := hP
                              have hD9 : va_D A (vX4_oidArc cA m0 m1 m2 m3 m4 m5 m6 m7 m8 m9 cd row sz1 nd tg st ln pa rd of ar dp at_ rs fd pl tx ou wr op on dn node k (nI 0)) := hD
                              have hq9 : pX4_oidArc m0 m1 m2 m3 m4 m5 m6 m7 m8 m9 cd row sz1 nd tg st ln pa rd of ar dp at_ rs fd pl tx ou wr op on dn node k (((lN ((vv * 128 + row (st node.toNatClampNeg + i) % 128) - 40 * 1)).toInt32)) (nI 0) := ⟨(by first | (exfalso; omega) | (show _ = if _ then _ else _; rw [if_pos ⟨hnm, by assumption, hk0⟩]; unfold oidS; rw [← hix]; rw [← hinv, partS_at (i := st node.toNatClampNeg + i) (by omega), if_pos (show row (st node.toNatClampNeg + i) < 128 by omega), if_pos (by omega), arcR_of hcap2]; unfold arcV; (first | rw [if_pos (show k.toNatClampNeg = 0 by omega)] | rw [if_neg (show ¬ k.toNatClampNeg = 0 by omega), if_pos (show k.toNatClampNeg = 1 by omega)] | rw [if_neg (show ¬ k.toNatClampNeg = 0 by omega), if_neg (show ¬ k.toNatClampNeg = 1 by omega)]); (try rw [hfst]); first | rw [if_pos (by omega)] | (rw [if_neg (by omega)]; exact lN_i _))), rfl⟩
                              exact W.iret (v := ((lN ((vv * 128 + row (st node.toNatClampNeg + i) % 128) - 40 * 1)).toInt32)) hx hb hr (fun t ht hW => ⟨⟨((lN ((vv * 128 + row (st node.toNatClampNeg + i) % 128) - 40 * 1)).toInt32), (nI 0), rfl, hq9, by rw [ht]; exact hP9, va_K.moved hW.alike hK, hD9⟩, hS.F ht⟩) hS.2.2 dX4_oidArc_178
                            · have c_21 := lle_f (by omega) (by omega) c_21
                              refine lv_bipush (v := (-2)) hx hb dX4_oidArc_170 (by decide) ?_
                              refine lv_goto (tgt := 178) hx hb dX4_oidArc_172 (by decide) ?_
                              have hP9 : va_P (dC, dI) vwCl (vX4_oidArc cA m0 m1 m2 m3 m4 m5 m6 m7 m8 m9 cd row sz1 nd tg st ln pa rd of ar dp at_ rs fd pl tx ou wr op on dn node k (nI 0)) _ := hP
                              have hD9 : va_D A (vX4_oidArc cA m0 m1 m2 m3 m4 m5 m6 m7 m8 m9 cd row sz1 nd tg st ln pa rd of ar dp at_ rs fd pl tx ou wr op on dn node k (nI 0)) := hD
                              have hq9 : pX4_oidArc m0 m1 m2 m3 m4 m5 m6 m7 m8 m9 cd row sz1 nd tg st ln pa rd of ar dp at_ rs fd pl tx ou wr op on dn node k ((-2)) (nI 0) := ⟨(by first | (exfalso; omega) | (show _ = if _ then _ else _; rw [if_pos ⟨hnm, by assumption, hk0⟩]; unfold oidS; rw [← hix]; rw [← hinv, partS_at (i := st node.toNatClampNeg + i) (by omega), if_pos (show row (st node.toNatClampNeg + i) < 128 by omega), if_pos (by omega), arcR_of hcap2]; unfold arcV; (first | rw [if_pos (show k.toNatClampNeg = 0 by omega)] | rw [if_neg (show ¬ k.toNatClampNeg = 0 by omega), if_pos (show k.toNatClampNeg = 1 by omega)] | rw [if_neg (show ¬ k.toNatClampNeg = 0 by omega), if_neg (show ¬ k.toNatClampNeg = 1 by omega)]); (try rw [hfst]); first | rw [if_pos (by omega)] | (rw [if_neg (by omega)]; exact lN_i _))), rfl⟩
                              exact W.iret (v := (-2)) hx hb hr (fun t ht hW => ⟨⟨(-2), (nI 0), rfl, hq9, by rw [ht]; exact hP9, va_K.moved hW.alike hK, hD9⟩, hS.F ht⟩) hS.2.2 dX4_oidArc_178
                        · refine lv_lload hx hb dX4_oidArc_139 (lv_at hl 0 rfl) ?_
                          refine lv_l2i (v := (lN 1).toInt32) hx hb dX4_oidArc_141 rfl ?_
                          have hP9 : va_P (dC, dI) vwCl (vX4_oidArc cA m0 m1 m2 m3 m4 m5 m6 m7 m8 m9 cd row sz1 nd tg st ln pa rd of ar dp at_ rs fd pl tx ou wr op on dn node k (nI 0)) _ := hP
                          have hD9 : va_D A (vX4_oidArc cA m0 m1 m2 m3 m4 m5 m6 m7 m8 m9 cd row sz1 nd tg st ln pa rd of ar dp at_ rs fd pl tx ou wr op on dn node k (nI 0)) := hD
                          have hq9 : pX4_oidArc m0 m1 m2 m3 m4 m5 m6 m7 m8 m9 cd row sz1 nd tg st ln pa rd of ar dp at_ rs fd pl tx ou wr op on dn node k (((lN 1).toInt32)) (nI 0) := ⟨(by first | (exfalso; omega) | (show _ = if _ then _ else _; rw [if_pos ⟨hnm, by assumption, hk0⟩]; unfold oidS; rw [← hix]; rw [← hinv, partS_at (i := st node.toNatClampNeg + i) (by omega), if_pos (show row (st node.toNatClampNeg + i) < 128 by omega), if_pos (by omega), arcR_of hcap2]; unfold arcV; (first | rw [if_pos (show k.toNatClampNeg = 0 by omega)] | rw [if_neg (show ¬ k.toNatClampNeg = 0 by omega), if_pos (show k.toNatClampNeg = 1 by omega)] | rw [if_neg (show ¬ k.toNatClampNeg = 0 by omega), if_neg (show ¬ k.toNatClampNeg = 1 by omega)]); (try rw [hfst]); rw [if_neg (by omega)]; exact lN_i _)), rfl⟩
                          exact W.iret (v := ((lN 1).toInt32)) hx hb hr (fun t ht hW => ⟨⟨((lN 1).toInt32), (nI 0), rfl, hq9, by rw [ht]; exact hP9, va_K.moved hW.alike hK, hD9⟩, hS.F ht⟩) hS.2.2 dX4_oidArc_142
                    · have c_14 := lge_f (by omega) (by omega) c_14
                      refine lv_lconst (v := lN 0) hx hb dX4_oidArc_113 (by decide) ?_
                      refine lv_goto (tgt := 133) hx hb dX4_oidArc_114 (by decide) ?_
                      have hfst : fst1 (vv * 128 + row (st node.toNatClampNeg + i) % 128) = 0 := by first | (exfalso; omega) | (unfold fst1; first | rw [if_pos (by omega)] | rw [if_neg (by omega), if_pos (by omega)] | rw [if_neg (by omega), if_neg (by omega)])
                      refine lv_lstore (lv' := [(8, .long (lN 0)), (4, .long (lN (vv * 128 + row (st node.toNatClampNeg + i) % 128))), (7, .int (nI (row ((st node.toNatClampNeg) + i)))), (6, .int (nI i)), (3, .int (nI ac)), (0, .ref m0), (1, .int (nI node.toNatClampNeg)), (2, .int (nI k.toNatClampNeg))]) hx hb dX4_oidArc_133 hl (by decide) rfl (fun ls hl => ?_)
                      refine lv_iload_n hx hb dX4_oidArc_135 rfl (lv_at hl 7 rfl) ?_
                      refine hl_if_ne (tgt := 143) hx hb dX4_oidArc_136 (by decide) (by omega) (fun c_22 => ?_) (fun c_22 => ?_)
                      · refine lv_lload hx hb dX4_oidArc_143 (lv_at hl 1 rfl) ?_
                        refine lv_ldc2 (v := 40) hx hb hown (hts (.constantLong RX4 101 (40)) (by decide +kernel)) dX4_oidArc_145 ?_
                        rw [show (40 : Int64) = lN 40 from rfl]
                        refine lv_lload hx hb dX4_oidArc_148 (lv_at hl 0 rfl) ?_
                        refine lv_lmul hx hb dX4_oidArc_150 ?_
                        refine lv_lsub hx hb dX4_oidArc_151 ?_
                        refine hl_topl (show _ = lN (vv * 128 + row (st node.toNatClampNeg + i) % 128 - 40 * 0) by rw [lN_mul, lN_sub (by omega)]) ?_
                        refine lv_lstore (lv' := [(4, .long (lN ((vv * 128 + row (st node.toNatClampNeg + i) % 128) - 40 * 0))), (8, .long (lN 0)), (7, .int (nI (row ((st node.toNatClampNeg) + i)))), (6, .int (nI i)), (3, .int (nI ac)), (0, .ref m0), (1, .int (nI node.toNatClampNeg)), (2, .int (nI k.toNatClampNeg))]) hx hb dX4_oidArc_152 hl (by decide) rfl (fun ls hl => ?_)
                        refine lv_iconst (v := nI 1) hx hb dX4_oidArc_154 (by decide) ?_
                        refine lv_istore_n (lv' := [(3, .int (nI 1)), (4, .long (lN ((vv * 128 + row (st node.toNatClampNeg + i) % 128) - 40 * 0))), (8, .long (lN 0)), (7, .int (nI (row ((st node.toNatClampNeg) + i)))), (6, .int (nI i)), (0, .ref m0), (1, .int (nI node.toNatClampNeg)), (2, .int (nI k.toNatClampNeg))]) hx hb dX4_oidArc_155 rfl hl (by decide) rfl (fun ls hl => ?_)
                        refine lv_iload_n hx hb dX4_oidArc_156 rfl (lv_at hl 0 rfl) ?_
                        refine lv_iload_n hx hb dX4_oidArc_157 rfl (lv_at hl 7 rfl) ?_
                        refine hl_icmp_ne (tgt := 179) hx hb dX4_oidArc_158 (by decide) (by omega) (by omega) (fun c_23 => ?_) (fun c_23 => ?_)
                        · refine lv_iinc (v := (nI 2)) (lv' := [(3, .int (nI 2)), (4, .long (lN ((vv * 128 + row (st node.toNatClampNeg + i) % 128) - 40 * 0))), (8, .long (lN 0)), (7, .int (nI (row ((st node.toNatClampNeg) + i)))), (6, .int (nI i)), (0, .ref m0), (1, .int (nI node.toNatClampNeg)), (2, .int (nI k.toNatClampNeg))]) hx hb dX4_oidArc_179 hl (k := 0) rfl (by decide) (by decide) rfl (fun ls hl => ?_)
                          refine lv_lconst (v := lN 0) hx hb dX4_oidArc_182 (by decide) ?_
                          refine lv_lstore (lv' := [(4, .long (lN 0)), (3, .int (nI 2)), (8, .long (lN 0)), (7, .int (nI (row ((st node.toNatClampNeg) + i)))), (6, .int (nI i)), (0, .ref m0), (1, .int (nI node.toNatClampNeg)), (2, .int (nI k.toNatClampNeg))]) hx hb dX4_oidArc_183 hl (by decide) rfl (fun ls hl => ?_)
                          refine lv_iinc (v := (nI (i + 1))) (lv' := [(6, .int (nI (i + 1))), (4, .long (lN 0)), (3, .int (nI 2)), (8, .long (lN 0)), (7, .int (nI (row ((st node.toNatClampNeg) + i)))), (0, .ref m0), (1, .int (nI node.toNatClampNeg)), (2, .int (nI k.toNatClampNeg))]) hx hb dX4_oidArc_185 hl (k := 4) rfl (nI_inc i 1) (by decide) rfl (fun ls hl => ?_)
                          refine lv_goto (tgt := 33) hx hb dX4_oidArc_188 (by decide) ?_
                          exact ih_33 (i + 1) 2 0 0 (by omega) (by omega) (by omega) (by omega) (by first | exact capR_0 | exact hcap2) (by first | (exfalso; omega) | (rw [← hinv, partS_at (i := st node.toNatClampNeg + i) (by omega), show st node.toNatClampNeg + (i + 1) = st node.toNatClampNeg + i + 1 by omega]; first | rw [if_neg (show ¬ row (st node.toNatClampNeg + i) < 128 by omega)] | (rw [if_pos (show row (st node.toNatClampNeg + i) < 128 by omega), if_neg (by omega)]; congr 1; omega))) _ _ _ hP hD hS (lv_sub hl [0, 1, 2, 5, 6, 7] rfl)
                        · refine lv_lload hx hb dX4_oidArc_161 (lv_at hl 1 rfl) ?_
                          refine lv_ldc2 (v := 2147483647) hx hb hown (hts (.constantLong RX4 107 (2147483647)) (by decide +kernel)) dX4_oidArc_163 ?_
                          rw [show (2147483647 : Int64) = lN 2147483647 from rfl]
                          refine W.lcmp hx hb dX4_oidArc_166 ?_
                          refine lv_if_le (tgt := 175) hx hb dX4_oidArc_167 (by decide) (fun c_24 => ?_) (fun c_24 => ?_)
                          · have c_24 := lle_t (by omega) (by omega) c_24
                            refine lv_lload hx hb dX4_oidArc_175 (lv_at hl 1 rfl) ?_
                            refine lv_l2i (v := (lN ((vv * 128 + row (st node.toNatClampNeg + i) % 128) - 40 * 0)).toInt32) hx hb dX4_oidArc_177 rfl ?_
                            have hP9 : va_P (dC, dI) vwCl (vX4_oidArc cA m0 m1 m2 m3 m4 m5 m6 m7 m8 m9 cd row sz1 nd tg st ln pa rd of ar dp at_ rs fd pl tx ou wr op on dn node k (nI 0)) _ := hP
                            have hD9 : va_D A (vX4_oidArc cA m0 m1 m2 m3 m4 m5 m6 m7 m8 m9 cd row sz1 nd tg st ln pa rd of ar dp at_ rs fd pl tx ou wr op on dn node k (nI 0)) := hD
                            have hq9 : pX4_oidArc m0 m1 m2 m3 m4 m5 m6 m7 m8 m9 cd row sz1 nd tg st ln pa rd of ar dp at_ rs fd pl tx ou wr op on dn node k (((lN ((vv * 128 + row (st node.toNatClampNeg + i) % 128) - 40 * 0)).toInt32)) (nI 0) := ⟨(by first | (exfalso; omega) | (show _ = if _ then _ else _; rw [if_pos ⟨hnm, by assumption, hk0⟩]; unfold oidS; rw [← hix]; rw [← hinv, partS_at (i := st node.toNatClampNeg + i) (by omega), if_pos (show row (st node.toNatClampNeg + i) < 128 by omega), if_pos (by omega), arcR_of hcap2]; unfold arcV; (first | rw [if_pos (show k.toNatClampNeg = 0 by omega)] | rw [if_neg (show ¬ k.toNatClampNeg = 0 by omega), if_pos (show k.toNatClampNeg = 1 by omega)] | rw [if_neg (show ¬ k.toNatClampNeg = 0 by omega), if_neg (show ¬ k.toNatClampNeg = 1 by omega)]); (try rw [hfst]); first | rw [if_pos (by omega)] | (rw [if_neg (by omega)]; exact lN_i _))), rfl⟩
                            exact W.iret (v := ((lN ((vv * 128 + row (st node.toNatClampNeg + i) % 128) - 40 * 0)).toInt32)) hx hb hr (fun t ht hW => ⟨⟨((lN ((vv * 128 + row (st node.toNatClampNeg + i) % 128) - 40 * 0)).toInt32), (nI 0), rfl, hq9, by rw [ht]; exact hP9, va_K.moved hW.alike hK, hD9⟩, hS.F ht⟩) hS.2.2 dX4_oidArc_178
                          · have c_24 := lle_f (by omega) (by omega) c_24
                            refine lv_bipush (v := (-2)) hx hb dX4_oidArc_170 (by decide) ?_
                            refine lv_goto (tgt := 178) hx hb dX4_oidArc_172 (by decide) ?_
                            have hP9 : va_P (dC, dI) vwCl (vX4_oidArc cA m0 m1 m2 m3 m4 m5 m6 m7 m8 m9 cd row sz1 nd tg st ln pa rd of ar dp at_ rs fd pl tx ou wr op on dn node k (nI 0)) _ := hP
                            have hD9 : va_D A (vX4_oidArc cA m0 m1 m2 m3 m4 m5 m6 m7 m8 m9 cd row sz1 nd tg st ln pa rd of ar dp at_ rs fd pl tx ou wr op on dn node k (nI 0)) := hD
                            have hq9 : pX4_oidArc m0 m1 m2 m3 m4 m5 m6 m7 m8 m9 cd row sz1 nd tg st ln pa rd of ar dp at_ rs fd pl tx ou wr op on dn node k ((-2)) (nI 0) := ⟨(by first | (exfalso; omega) | (show _ = if _ then _ else _; rw [if_pos ⟨hnm, by assumption, hk0⟩]; unfold oidS; rw [← hix]; rw [← hinv, partS_at (i := st node.toNatClampNeg + i) (by omega), if_pos (show row (st node.toNatClampNeg + i) < 128 by omega), if_pos (by omega), arcR_of hcap2]; unfold arcV; (first | rw [if_pos (show k.toNatClampNeg = 0 by omega)] | rw [if_neg (show ¬ k.toNatClampNeg = 0 by omega), if_pos (show k.toNatClampNeg = 1 by omega)] | rw [if_neg (show ¬ k.toNatClampNeg = 0 by omega), if_neg (show ¬ k.toNatClampNeg = 1 by omega)]); (try rw [hfst]); first | rw [if_pos (by omega)] | (rw [if_neg (by omega)]; exact lN_i _))), rfl⟩
                            exact W.iret (v := (-2)) hx hb hr (fun t ht hW => ⟨⟨(-2), (nI 0), rfl, hq9, by rw [ht]; exact hP9, va_K.moved hW.alike hK, hD9⟩, hS.F ht⟩) hS.2.2 dX4_oidArc_178
                      · refine lv_lload hx hb dX4_oidArc_139 (lv_at hl 0 rfl) ?_
                        refine lv_l2i (v := (lN 0).toInt32) hx hb dX4_oidArc_141 rfl ?_
                        have hP9 : va_P (dC, dI) vwCl (vX4_oidArc cA m0 m1 m2 m3 m4 m5 m6 m7 m8 m9 cd row sz1 nd tg st ln pa rd of ar dp at_ rs fd pl tx ou wr op on dn node k (nI 0)) _ := hP
                        have hD9 : va_D A (vX4_oidArc cA m0 m1 m2 m3 m4 m5 m6 m7 m8 m9 cd row sz1 nd tg st ln pa rd of ar dp at_ rs fd pl tx ou wr op on dn node k (nI 0)) := hD
                        have hq9 : pX4_oidArc m0 m1 m2 m3 m4 m5 m6 m7 m8 m9 cd row sz1 nd tg st ln pa rd of ar dp at_ rs fd pl tx ou wr op on dn node k (((lN 0).toInt32)) (nI 0) := ⟨(by first | (exfalso; omega) | (show _ = if _ then _ else _; rw [if_pos ⟨hnm, by assumption, hk0⟩]; unfold oidS; rw [← hix]; rw [← hinv, partS_at (i := st node.toNatClampNeg + i) (by omega), if_pos (show row (st node.toNatClampNeg + i) < 128 by omega), if_pos (by omega), arcR_of hcap2]; unfold arcV; (first | rw [if_pos (show k.toNatClampNeg = 0 by omega)] | rw [if_neg (show ¬ k.toNatClampNeg = 0 by omega), if_pos (show k.toNatClampNeg = 1 by omega)] | rw [if_neg (show ¬ k.toNatClampNeg = 0 by omega), if_neg (show ¬ k.toNatClampNeg = 1 by omega)]); (try rw [hfst]); rw [if_neg (by omega)]; exact lN_i _)), rfl⟩
                        exact W.iret (v := ((lN 0).toInt32)) hx hb hr (fun t ht hW => ⟨⟨((lN 0).toInt32), (nI 0), rfl, hq9, by rw [ht]; exact hP9, va_K.moved hW.alike hK, hD9⟩, hS.F ht⟩) hS.2.2 dX4_oidArc_142
                · refine lv_goto (tgt := 185) hx hb dX4_oidArc_97 (by decide) ?_
                  refine lv_iinc (v := (nI (i + 1))) (lv' := [(6, .int (nI (i + 1))), (4, .long (lN (vv * 128 + row (st node.toNatClampNeg + i) % 128))), (7, .int (nI (row ((st node.toNatClampNeg) + i)))), (3, .int (nI ac)), (0, .ref m0), (1, .int (nI node.toNatClampNeg)), (2, .int (nI k.toNatClampNeg))]) hx hb dX4_oidArc_185 hl (k := 2) rfl (nI_inc i 1) (by decide) rfl (fun ls hl => ?_)
                  refine lv_goto (tgt := 33) hx hb dX4_oidArc_188 (by decide) ?_
                  exact ih_33 (i + 1) ac (vv * 128 + row (st node.toNatClampNeg + i) % 128) (cu * 128 + row (st node.toNatClampNeg + i) % 128) (by omega) (by omega) (by omega) (by omega) (by first | exact capR_0 | exact hcap2) (by first | (exfalso; omega) | (rw [← hinv, partS_at (i := st node.toNatClampNeg + i) (by omega), show st node.toNatClampNeg + (i + 1) = st node.toNatClampNeg + i + 1 by omega]; first | rw [if_neg (show ¬ row (st node.toNatClampNeg + i) < 128 by omega)] | (rw [if_pos (show row (st node.toNatClampNeg + i) < 128 by omega), if_neg (by omega)]; congr 1; omega))) _ _ _ hP hD hS (lv_sub hl [0, 1, 3, 4, 5, 6] rfl)
              · have c_9 := lle_f (by omega) (by omega) c_9
                refine lv_lload hx hb dX4_oidArc_69 (lv_at hl 2 rfl) ?_
                refine lv_goto (tgt := 88) hx hb dX4_oidArc_71 (by decide) ?_
                have hcap2 : capR vv (cu * 128 + row (st node.toNatClampNeg + i) % 128) := capR_keep hcap (by omega)
                have hc1 := hcap2.1
                refine lv_lstore (lv' := [(4, .long (lN vv)), (7, .int (nI (row ((st node.toNatClampNeg) + i)))), (6, .int (nI i)), (3, .int (nI ac)), (0, .ref m0), (1, .int (nI node.toNatClampNeg)), (2, .int (nI k.toNatClampNeg))]) hx hb dX4_oidArc_88 hl (by decide) rfl (fun ls hl => ?_)
                refine lv_iload hx hb dX4_oidArc_90 (lv_at hl 1 rfl) ?_
                refine lv_bipush (v := nI 127) hx hb dX4_oidArc_92 (by decide) ?_
                refine hl_icmp_le (tgt := 100) hx hb dX4_oidArc_94 (by decide) (by omega) (by omega) (fun c_25 => ?_) (fun c_25 => ?_)
                · refine lv_iload_n hx hb dX4_oidArc_100 rfl (lv_at hl 3 rfl) ?_
                  refine hl_if_ne (tgt := 156) hx hb dX4_oidArc_101 (by decide) (by omega) (fun c_26 => ?_) (fun c_26 => ?_)
                  · refine lv_iload_n hx hb dX4_oidArc_156 rfl (lv_at hl 3 rfl) ?_
                    refine lv_iload_n hx hb dX4_oidArc_157 rfl (lv_at hl 6 rfl) ?_
                    refine hl_icmp_ne (tgt := 179) hx hb dX4_oidArc_158 (by decide) (by omega) (by omega) (fun c_27 => ?_) (fun c_27 => ?_)
                    · refine lv_iinc (v := (nI (ac + 1))) (lv' := [(3, .int (nI (ac + 1))), (4, .long (lN vv)), (7, .int (nI (row ((st node.toNatClampNeg) + i)))), (6, .int (nI i)), (0, .ref m0), (1, .int (nI node.toNatClampNeg)), (2, .int (nI k.toNatClampNeg))]) hx hb dX4_oidArc_179 hl (k := 3) rfl (nI_inc ac 1) (by decide) rfl (fun ls hl => ?_)
                      refine lv_lconst (v := lN 0) hx hb dX4_oidArc_182 (by decide) ?_
                      refine lv_lstore (lv' := [(4, .long (lN 0)), (3, .int (nI (ac + 1))), (7, .int (nI (row ((st node.toNatClampNeg) + i)))), (6, .int (nI i)), (0, .ref m0), (1, .int (nI node.toNatClampNeg)), (2, .int (nI k.toNatClampNeg))]) hx hb dX4_oidArc_183 hl (by decide) rfl (fun ls hl => ?_)
                      refine lv_iinc (v := (nI (i + 1))) (lv' := [(6, .int (nI (i + 1))), (4, .long (lN 0)), (3, .int (nI (ac + 1))), (7, .int (nI (row ((st node.toNatClampNeg) + i)))), (0, .ref m0), (1, .int (nI node.toNatClampNeg)), (2, .int (nI k.toNatClampNeg))]) hx hb dX4_oidArc_185 hl (k := 3) rfl (nI_inc i 1) (by decide) rfl (fun ls hl => ?_)
                      refine lv_goto (tgt := 33) hx hb dX4_oidArc_188 (by decide) ?_
                      exact ih_33 (i + 1) (ac + 1) 0 0 (by omega) (by omega) (by omega) (by omega) (by first | exact capR_0 | exact hcap2) (by first | (exfalso; omega) | (rw [← hinv, partS_at (i := st node.toNatClampNeg + i) (by omega), show st node.toNatClampNeg + (i + 1) = st node.toNatClampNeg + i + 1 by omega]; first | rw [if_neg (show ¬ row (st node.toNatClampNeg + i) < 128 by omega)] | (rw [if_pos (show row (st node.toNatClampNeg + i) < 128 by omega), if_neg (by omega)]; congr 1; omega))) _ _ _ hP hD hS (lv_sub hl [0, 1, 2, 4, 5, 6] rfl)
                    · refine lv_lload hx hb dX4_oidArc_161 (lv_at hl 0 rfl) ?_
                      refine lv_ldc2 (v := 2147483647) hx hb hown (hts (.constantLong RX4 107 (2147483647)) (by decide +kernel)) dX4_oidArc_163 ?_
                      rw [show (2147483647 : Int64) = lN 2147483647 from rfl]
                      refine W.lcmp hx hb dX4_oidArc_166 ?_
                      refine lv_if_le (tgt := 175) hx hb dX4_oidArc_167 (by decide) (fun c_28 => ?_) (fun c_28 => ?_)
                      · have c_28 := lle_t (by omega) (by omega) c_28
                        refine lv_lload hx hb dX4_oidArc_175 (lv_at hl 0 rfl) ?_
                        refine lv_l2i (v := (lN vv).toInt32) hx hb dX4_oidArc_177 rfl ?_
                        have hP9 : va_P (dC, dI) vwCl (vX4_oidArc cA m0 m1 m2 m3 m4 m5 m6 m7 m8 m9 cd row sz1 nd tg st ln pa rd of ar dp at_ rs fd pl tx ou wr op on dn node k (nI 0)) _ := hP
                        have hD9 : va_D A (vX4_oidArc cA m0 m1 m2 m3 m4 m5 m6 m7 m8 m9 cd row sz1 nd tg st ln pa rd of ar dp at_ rs fd pl tx ou wr op on dn node k (nI 0)) := hD
                        have hq9 : pX4_oidArc m0 m1 m2 m3 m4 m5 m6 m7 m8 m9 cd row sz1 nd tg st ln pa rd of ar dp at_ rs fd pl tx ou wr op on dn node k (((lN vv).toInt32)) (nI 0) := ⟨(by first | (exfalso; omega) | (show _ = if _ then _ else _; rw [if_pos ⟨hnm, by assumption, hk0⟩]; unfold oidS; rw [← hix]; rw [← hinv, partS_at (i := st node.toNatClampNeg + i) (by omega), if_pos (show row (st node.toNatClampNeg + i) < 128 by omega), if_pos (by omega), arcR_of hcap2]; unfold arcV; (first | rw [if_pos (show k.toNatClampNeg = 0 by omega)] | rw [if_neg (show ¬ k.toNatClampNeg = 0 by omega), if_pos (show k.toNatClampNeg = 1 by omega)] | rw [if_neg (show ¬ k.toNatClampNeg = 0 by omega), if_neg (show ¬ k.toNatClampNeg = 1 by omega)]); (try rw [hfst]); first | rw [if_pos (by omega)] | (rw [if_neg (by omega)]; exact lN_i _))), rfl⟩
                        exact W.iret (v := ((lN vv).toInt32)) hx hb hr (fun t ht hW => ⟨⟨((lN vv).toInt32), (nI 0), rfl, hq9, by rw [ht]; exact hP9, va_K.moved hW.alike hK, hD9⟩, hS.F ht⟩) hS.2.2 dX4_oidArc_178
                      · have c_28 := lle_f (by omega) (by omega) c_28
                        refine lv_bipush (v := (-2)) hx hb dX4_oidArc_170 (by decide) ?_
                        refine lv_goto (tgt := 178) hx hb dX4_oidArc_172 (by decide) ?_
                        have hP9 : va_P (dC, dI) vwCl (vX4_oidArc cA m0 m1 m2 m3 m4 m5 m6 m7 m8 m9 cd row sz1 nd tg st ln pa rd of ar dp at_ rs fd pl tx ou wr op on dn node k (nI 0)) _ := hP
                        have hD9 : va_D A (vX4_oidArc cA m0 m1 m2 m3 m4 m5 m6 m7 m8 m9 cd row sz1 nd tg st ln pa rd of ar dp at_ rs fd pl tx ou wr op on dn node k (nI 0)) := hD
                        have hq9 : pX4_oidArc m0 m1 m2 m3 m4 m5 m6 m7 m8 m9 cd row sz1 nd tg st ln pa rd of ar dp at_ rs fd pl tx ou wr op on dn node k ((-2)) (nI 0) := ⟨(by first | (exfalso; omega) | (show _ = if _ then _ else _; rw [if_pos ⟨hnm, by assumption, hk0⟩]; unfold oidS; rw [← hix]; rw [← hinv, partS_at (i := st node.toNatClampNeg + i) (by omega), if_pos (show row (st node.toNatClampNeg + i) < 128 by omega), if_pos (by omega), arcR_of hcap2]; unfold arcV; (first | rw [if_pos (show k.toNatClampNeg = 0 by omega)] | rw [if_neg (show ¬ k.toNatClampNeg = 0 by omega), if_pos (show k.toNatClampNeg = 1 by omega)] | rw [if_neg (show ¬ k.toNatClampNeg = 0 by omega), if_neg (show ¬ k.toNatClampNeg = 1 by omega)]); (try rw [hfst]); first | rw [if_pos (by omega)] | (rw [if_neg (by omega)]; exact lN_i _))), rfl⟩
                        exact W.iret (v := (-2)) hx hb hr (fun t ht hW => ⟨⟨(-2), (nI 0), rfl, hq9, by rw [ht]; exact hP9, va_K.moved hW.alike hK, hD9⟩, hS.F ht⟩) hS.2.2 dX4_oidArc_178
                  · refine lv_lload hx hb dX4_oidArc_104 (lv_at hl 0 rfl) ?_
                    refine lv_ldc2 (v := 40) hx hb hown (hts (.constantLong RX4 101 (40)) (by decide +kernel)) dX4_oidArc_106 ?_
                    rw [show (40 : Int64) = lN 40 from rfl]
                    refine W.lcmp hx hb dX4_oidArc_109 ?_
                    refine lv_if_ge (tgt := 117) hx hb dX4_oidArc_110 (by decide) (fun c_29 => ?_) (fun c_29 => ?_)
                    · have c_29 := lge_t (by omega) (by omega) c_29
                      refine lv_lload hx hb dX4_oidArc_117 (lv_at hl 0 rfl) ?_
                      refine lv_ldc2 (v := 80) hx hb hown (hts (.constantLong RX4 103 (80)) (by decide +kernel)) dX4_oidArc_119 ?_
                      rw [show (80 : Int64) = lN 80 from rfl]
                      refine W.lcmp hx hb dX4_oidArc_122 ?_
                      refine lv_if_ge (tgt := 130) hx hb dX4_oidArc_123 (by decide) (fun c_30 => ?_) (fun c_30 => ?_)
                      · have c_30 := lge_t (by omega) (by omega) c_30
                        refine lv_ldc2 (v := 2) hx hb hown (hts (.constantLong RX4 105 (2)) (by decide +kernel)) dX4_oidArc_130 ?_
                        rw [show (2 : Int64) = lN 2 from rfl]
                        have hfst : fst1 (vv) = 2 := by first | (exfalso; omega) | (unfold fst1; first | rw [if_pos (by omega)] | rw [if_neg (by omega), if_pos (by omega)] | rw [if_neg (by omega), if_neg (by omega)])
                        refine lv_lstore (lv' := [(8, .long (lN 2)), (4, .long (lN vv)), (7, .int (nI (row ((st node.toNatClampNeg) + i)))), (6, .int (nI i)), (3, .int (nI ac)), (0, .ref m0), (1, .int (nI node.toNatClampNeg)), (2, .int (nI k.toNatClampNeg))]) hx hb dX4_oidArc_133 hl (by decide) rfl (fun ls hl => ?_)
                        refine lv_iload_n hx hb dX4_oidArc_135 rfl (lv_at hl 7 rfl) ?_
                        refine hl_if_ne (tgt := 143) hx hb dX4_oidArc_136 (by decide) (by omega) (fun c_31 => ?_) (fun c_31 => ?_)
                        · refine lv_lload hx hb dX4_oidArc_143 (lv_at hl 1 rfl) ?_
                          refine lv_ldc2 (v := 40) hx hb hown (hts (.constantLong RX4 101 (40)) (by decide +kernel)) dX4_oidArc_145 ?_
                          rw [show (40 : Int64) = lN 40 from rfl]
                          refine lv_lload hx hb dX4_oidArc_148 (lv_at hl 0 rfl) ?_
                          refine lv_lmul hx hb dX4_oidArc_150 ?_
                          refine lv_lsub hx hb dX4_oidArc_151 ?_
                          refine hl_topl (show _ = lN (vv - 40 * 2) by rw [lN_mul, lN_sub (by omega)]) ?_
                          refine lv_lstore (lv' := [(4, .long (lN (vv - 40 * 2))), (8, .long (lN 2)), (7, .int (nI (row ((st node.toNatClampNeg) + i)))), (6, .int (nI i)), (3, .int (nI ac)), (0, .ref m0), (1, .int (nI node.toNatClampNeg)), (2, .int (nI k.toNatClampNeg))]) hx hb dX4_oidArc_152 hl (by decide) rfl (fun ls hl => ?_)
                          refine lv_iconst (v := nI 1) hx hb dX4_oidArc_154 (by decide) ?_
                          refine lv_istore_n (lv' := [(3, .int (nI 1)), (4, .long (lN (vv - 40 * 2))), (8, .long (lN 2)), (7, .int (nI (row ((st node.toNatClampNeg) + i)))), (6, .int (nI i)), (0, .ref m0), (1, .int (nI node.toNatClampNeg)), (2, .int (nI k.toNatClampNeg))]) hx hb dX4_oidArc_155 rfl hl (by decide) rfl (fun ls hl => ?_)
                          refine lv_iload_n hx hb dX4_oidArc_156 rfl (lv_at hl 0 rfl) ?_
                          refine lv_iload_n hx hb dX4_oidArc_157 rfl (lv_at hl 7 rfl) ?_
                          refine hl_icmp_ne (tgt := 179) hx hb dX4_oidArc_158 (by decide) (by omega) (by omega) (fun c_32 => ?_) (fun c_32 => ?_)
                          · refine lv_iinc (v := (nI 2)) (lv' := [(3, .int (nI 2)), (4, .long (lN (vv - 40 * 2))), (8, .long (lN 2)), (7, .int (nI (row ((st node.toNatClampNeg) + i)))), (6, .int (nI i)), (0, .ref m0), (1, .int (nI node.toNatClampNeg)), (2, .int (nI k.toNatClampNeg))]) hx hb dX4_oidArc_179 hl (k := 0) rfl (by decide) (by decide) rfl (fun ls hl => ?_)
                            refine lv_lconst (v := lN 0) hx hb dX4_oidArc_182 (by decide) ?_
                            refine lv_lstore (lv' := [(4, .long (lN 0)), (3, .int (nI 2)), (8, .long (lN 2)), (7, .int (nI (row ((st node.toNatClampNeg) + i)))), (6, .int (nI i)), (0, .ref m0), (1, .int (nI node.toNatClampNeg)), (2, .int (nI k.toNatClampNeg))]) hx hb dX4_oidArc_183 hl (by decide) rfl (fun ls hl => ?_)
                            refine lv_iinc (v := (nI (i + 1))) (lv' := [(6, .int (nI (i + 1))), (4, .long (lN 0)), (3, .int (nI 2)), (8, .long (lN 2)), (7, .int (nI (row ((st node.toNatClampNeg) + i)))), (0, .ref m0), (1, .int (nI node.toNatClampNeg)), (2, .int (nI k.toNatClampNeg))]) hx hb dX4_oidArc_185 hl (k := 4) rfl (nI_inc i 1) (by decide) rfl (fun ls hl => ?_)
                            refine lv_goto (tgt := 33) hx hb dX4_oidArc_188 (by decide) ?_
                            exact ih_33 (i + 1) 2 0 0 (by omega) (by omega) (by omega) (by omega) (by first | exact capR_0 | exact hcap2) (by first | (exfalso; omega) | (rw [← hinv, partS_at (i := st node.toNatClampNeg + i) (by omega), show st node.toNatClampNeg + (i + 1) = st node.toNatClampNeg + i + 1 by omega]; first | rw [if_neg (show ¬ row (st node.toNatClampNeg + i) < 128 by omega)] | (rw [if_pos (show row (st node.toNatClampNeg + i) < 128 by omega), if_neg (by omega)]; congr 1; omega))) _ _ _ hP hD hS (lv_sub hl [0, 1, 2, 5, 6, 7] rfl)
                          · refine lv_lload hx hb dX4_oidArc_161 (lv_at hl 1 rfl) ?_
                            refine lv_ldc2 (v := 2147483647) hx hb hown (hts (.constantLong RX4 107 (2147483647)) (by decide +kernel)) dX4_oidArc_163 ?_
                            rw [show (2147483647 : Int64) = lN 2147483647 from rfl]
                            refine W.lcmp hx hb dX4_oidArc_166 ?_
                            refine lv_if_le (tgt := 175) hx hb dX4_oidArc_167 (by decide) (fun c_33 => ?_) (fun c_33 => ?_)
                            · have c_33 := lle_t (by omega) (by omega) c_33
                              refine lv_lload hx hb dX4_oidArc_175 (lv_at hl 1 rfl) ?_
                              refine lv_l2i (v := (lN (vv - 40 * 2)).toInt32) hx hb dX4_oidArc_177 rfl ?_
                              have hP9 : va_P (dC, dI) vwCl (vX4_oidArc cA m0 m1 m2 m3 m4 m5 m6 m7 m8 m9 cd row sz1 nd tg st ln pa rd of ar dp at_ rs fd pl tx ou wr op on dn node k (nI 0)) _ := hP
                              have hD9 : va_D A (vX4_oidArc cA m0 m1 m2 m3 m4 m5 m6 m7 m8 m9 cd row sz1 nd tg st ln pa rd of ar dp at_ rs fd pl tx ou wr op on dn node k (nI 0)) := hD
                              have hq9 : pX4_oidArc m0 m1 m2 m3 m4 m5 m6 m7 m8 m9 cd row sz1 nd tg st ln pa rd of ar dp at_ rs fd pl tx ou wr op on dn node k (((lN (vv - 40 * 2)).toInt32)) (nI 0) := ⟨(by first | (exfalso; omega) | (show _ = if _ then _ else _; rw [if_pos ⟨hnm, by assumption, hk0⟩]; unfold oidS; rw [← hix]; rw [← hinv, partS_at (i := st node.toNatClampNeg + i) (by omega), if_pos (show row (st node.toNatClampNeg + i) < 128 by omega), if_pos (by omega), arcR_of hcap2]; unfold arcV; (first | rw [if_pos (show k.toNatClampNeg = 0 by omega)] | rw [if_neg (show ¬ k.toNatClampNeg = 0 by omega), if_pos (show k.toNatClampNeg = 1 by omega)] | rw [if_neg (show ¬ k.toNatClampNeg = 0 by omega), if_neg (show ¬ k.toNatClampNeg = 1 by omega)]); (try rw [hfst]); first | rw [if_pos (by omega)] | (rw [if_neg (by omega)]; exact lN_i _))), rfl⟩
                              exact W.iret (v := ((lN (vv - 40 * 2)).toInt32)) hx hb hr (fun t ht hW => ⟨⟨((lN (vv - 40 * 2)).toInt32), (nI 0), rfl, hq9, by rw [ht]; exact hP9, va_K.moved hW.alike hK, hD9⟩, hS.F ht⟩) hS.2.2 dX4_oidArc_178
                            · have c_33 := lle_f (by omega) (by omega) c_33
                              refine lv_bipush (v := (-2)) hx hb dX4_oidArc_170 (by decide) ?_
                              refine lv_goto (tgt := 178) hx hb dX4_oidArc_172 (by decide) ?_
                              have hP9 : va_P (dC, dI) vwCl (vX4_oidArc cA m0 m1 m2 m3 m4 m5 m6 m7 m8 m9 cd row sz1 nd tg st ln pa rd of ar dp at_ rs fd pl tx ou wr op on dn node k (nI 0)) _ := hP
                              have hD9 : va_D A (vX4_oidArc cA m0 m1 m2 m3 m4 m5 m6 m7 m8 m9 cd row sz1 nd tg st ln pa rd of ar dp at_ rs fd pl tx ou wr op on dn node k (nI 0)) := hD
                              have hq9 : pX4_oidArc m0 m1 m2 m3 m4 m5 m6 m7 m8 m9 cd row sz1 nd tg st ln pa rd of ar dp at_ rs fd pl tx ou wr op on dn node k ((-2)) (nI 0) := ⟨(by first | (exfalso; omega) | (show _ = if _ then _ else _; rw [if_pos ⟨hnm, by assumption, hk0⟩]; unfold oidS; rw [← hix]; rw [← hinv, partS_at (i := st node.toNatClampNeg + i) (by omega), if_pos (show row (st node.toNatClampNeg + i) < 128 by omega), if_pos (by omega), arcR_of hcap2]; unfold arcV; (first | rw [if_pos (show k.toNatClampNeg = 0 by omega)] | rw [if_neg (show ¬ k.toNatClampNeg = 0 by omega), if_pos (show k.toNatClampNeg = 1 by omega)] | rw [if_neg (show ¬ k.toNatClampNeg = 0 by omega), if_neg (show ¬ k.toNatClampNeg = 1 by omega)]); (try rw [hfst]); first | rw [if_pos (by omega)] | (rw [if_neg (by omega)]; exact lN_i _))), rfl⟩
                              exact W.iret (v := (-2)) hx hb hr (fun t ht hW => ⟨⟨(-2), (nI 0), rfl, hq9, by rw [ht]; exact hP9, va_K.moved hW.alike hK, hD9⟩, hS.F ht⟩) hS.2.2 dX4_oidArc_178
                        · refine lv_lload hx hb dX4_oidArc_139 (lv_at hl 0 rfl) ?_
                          refine lv_l2i (v := (lN 2).toInt32) hx hb dX4_oidArc_141 rfl ?_
                          have hP9 : va_P (dC, dI) vwCl (vX4_oidArc cA m0 m1 m2 m3 m4 m5 m6 m7 m8 m9 cd row sz1 nd tg st ln pa rd of ar dp at_ rs fd pl tx ou wr op on dn node k (nI 0)) _ := hP
                          have hD9 : va_D A (vX4_oidArc cA m0 m1 m2 m3 m4 m5 m6 m7 m8 m9 cd row sz1 nd tg st ln pa rd of ar dp at_ rs fd pl tx ou wr op on dn node k (nI 0)) := hD
                          have hq9 : pX4_oidArc m0 m1 m2 m3 m4 m5 m6 m7 m8 m9 cd row sz1 nd tg st ln pa rd of ar dp at_ rs fd pl tx ou wr op on dn node k (((lN 2).toInt32)) (nI 0) := ⟨(by first | (exfalso; omega) | (show _ = if _ then _ else _; rw [if_pos ⟨hnm, by assumption, hk0⟩]; unfold oidS; rw [← hix]; rw [← hinv, partS_at (i := st node.toNatClampNeg + i) (by omega), if_pos (show row (st node.toNatClampNeg + i) < 128 by omega), if_pos (by omega), arcR_of hcap2]; unfold arcV; (first | rw [if_pos (show k.toNatClampNeg = 0 by omega)] | rw [if_neg (show ¬ k.toNatClampNeg = 0 by omega), if_pos (show k.toNatClampNeg = 1 by omega)] | rw [if_neg (show ¬ k.toNatClampNeg = 0 by omega), if_neg (show ¬ k.toNatClampNeg = 1 by omega)]); (try rw [hfst]); rw [if_neg (by omega)]; exact lN_i _)), rfl⟩
                          exact W.iret (v := ((lN 2).toInt32)) hx hb hr (fun t ht hW => ⟨⟨((lN 2).toInt32), (nI 0), rfl, hq9, by rw [ht]; exact hP9, va_K.moved hW.alike hK, hD9⟩, hS.F ht⟩) hS.2.2 dX4_oidArc_142
                      · have c_30 := lge_f (by omega) (by omega) c_30
                        refine lv_lconst (v := lN 1) hx hb dX4_oidArc_126 (by decide) ?_
                        refine lv_goto (tgt := 133) hx hb dX4_oidArc_127 (by decide) ?_
                        have hfst : fst1 (vv) = 1 := by first | (exfalso; omega) | (unfold fst1; first | rw [if_pos (by omega)] | rw [if_neg (by omega), if_pos (by omega)] | rw [if_neg (by omega), if_neg (by omega)])
                        refine lv_lstore (lv' := [(8, .long (lN 1)), (4, .long (lN vv)), (7, .int (nI (row ((st node.toNatClampNeg) + i)))), (6, .int (nI i)), (3, .int (nI ac)), (0, .ref m0), (1, .int (nI node.toNatClampNeg)), (2, .int (nI k.toNatClampNeg))]) hx hb dX4_oidArc_133 hl (by decide) rfl (fun ls hl => ?_)
                        refine lv_iload_n hx hb dX4_oidArc_135 rfl (lv_at hl 7 rfl) ?_
                        refine hl_if_ne (tgt := 143) hx hb dX4_oidArc_136 (by decide) (by omega) (fun c_34 => ?_) (fun c_34 => ?_)
                        · refine lv_lload hx hb dX4_oidArc_143 (lv_at hl 1 rfl) ?_
                          refine lv_ldc2 (v := 40) hx hb hown (hts (.constantLong RX4 101 (40)) (by decide +kernel)) dX4_oidArc_145 ?_
                          rw [show (40 : Int64) = lN 40 from rfl]
                          refine lv_lload hx hb dX4_oidArc_148 (lv_at hl 0 rfl) ?_
                          refine lv_lmul hx hb dX4_oidArc_150 ?_
                          refine lv_lsub hx hb dX4_oidArc_151 ?_
                          refine hl_topl (show _ = lN (vv - 40 * 1) by rw [lN_mul, lN_sub (by omega)]) ?_
                          refine lv_lstore (lv' := [(4, .long (lN (vv - 40 * 1))), (8, .long (lN 1)), (7, .int (nI (row ((st node.toNatClampNeg) + i)))), (6, .int (nI i)), (3, .int (nI ac)), (0, .ref m0), (1, .int (nI node.toNatClampNeg)), (2, .int (nI k.toNatClampNeg))]) hx hb dX4_oidArc_152 hl (by decide) rfl (fun ls hl => ?_)
                          refine lv_iconst (v := nI 1) hx hb dX4_oidArc_154 (by decide) ?_
                          refine lv_istore_n (lv' := [(3, .int (nI 1)), (4, .long (lN (vv - 40 * 1))), (8, .long (lN 1)), (7, .int (nI (row ((st node.toNatClampNeg) + i)))), (6, .int (nI i)), (0, .ref m0), (1, .int (nI node.toNatClampNeg)), (2, .int (nI k.toNatClampNeg))]) hx hb dX4_oidArc_155 rfl hl (by decide) rfl (fun ls hl => ?_)
                          refine lv_iload_n hx hb dX4_oidArc_156 rfl (lv_at hl 0 rfl) ?_
                          refine lv_iload_n hx hb dX4_oidArc_157 rfl (lv_at hl 7 rfl) ?_
                          refine hl_icmp_ne (tgt := 179) hx hb dX4_oidArc_158 (by decide) (by omega) (by omega) (fun c_35 => ?_) (fun c_35 => ?_)
                          · refine lv_iinc (v := (nI 2)) (lv' := [(3, .int (nI 2)), (4, .long (lN (vv - 40 * 1))), (8, .long (lN 1)), (7, .int (nI (row ((st node.toNatClampNeg) + i)))), (6, .int (nI i)), (0, .ref m0), (1, .int (nI node.toNatClampNeg)), (2, .int (nI k.toNatClampNeg))]) hx hb dX4_oidArc_179 hl (k := 0) rfl (by decide) (by decide) rfl (fun ls hl => ?_)
                            refine lv_lconst (v := lN 0) hx hb dX4_oidArc_182 (by decide) ?_
                            refine lv_lstore (lv' := [(4, .long (lN 0)), (3, .int (nI 2)), (8, .long (lN 1)), (7, .int (nI (row ((st node.toNatClampNeg) + i)))), (6, .int (nI i)), (0, .ref m0), (1, .int (nI node.toNatClampNeg)), (2, .int (nI k.toNatClampNeg))]) hx hb dX4_oidArc_183 hl (by decide) rfl (fun ls hl => ?_)
                            refine lv_iinc (v := (nI (i + 1))) (lv' := [(6, .int (nI (i + 1))), (4, .long (lN 0)), (3, .int (nI 2)), (8, .long (lN 1)), (7, .int (nI (row ((st node.toNatClampNeg) + i)))), (0, .ref m0), (1, .int (nI node.toNatClampNeg)), (2, .int (nI k.toNatClampNeg))]) hx hb dX4_oidArc_185 hl (k := 4) rfl (nI_inc i 1) (by decide) rfl (fun ls hl => ?_)
                            refine lv_goto (tgt := 33) hx hb dX4_oidArc_188 (by decide) ?_
                            exact ih_33 (i + 1) 2 0 0 (by omega) (by omega) (by omega) (by omega) (by first | exact capR_0 | exact hcap2) (by first | (exfalso; omega) | (rw [← hinv, partS_at (i := st node.toNatClampNeg + i) (by omega), show st node.toNatClampNeg + (i + 1) = st node.toNatClampNeg + i + 1 by omega]; first | rw [if_neg (show ¬ row (st node.toNatClampNeg + i) < 128 by omega)] | (rw [if_pos (show row (st node.toNatClampNeg + i) < 128 by omega), if_neg (by omega)]; congr 1; omega))) _ _ _ hP hD hS (lv_sub hl [0, 1, 2, 5, 6, 7] rfl)
                          · refine lv_lload hx hb dX4_oidArc_161 (lv_at hl 1 rfl) ?_
                            refine lv_ldc2 (v := 2147483647) hx hb hown (hts (.constantLong RX4 107 (2147483647)) (by decide +kernel)) dX4_oidArc_163 ?_
                            rw [show (2147483647 : Int64) = lN 2147483647 from rfl]
                            refine W.lcmp hx hb dX4_oidArc_166 ?_
                            refine lv_if_le (tgt := 175) hx hb dX4_oidArc_167 (by decide) (fun c_36 => ?_) (fun c_36 => ?_)
                            · have c_36 := lle_t (by omega) (by omega) c_36
                              refine lv_lload hx hb dX4_oidArc_175 (lv_at hl 1 rfl) ?_
                              refine lv_l2i (v := (lN (vv - 40 * 1)).toInt32) hx hb dX4_oidArc_177 rfl ?_
                              have hP9 : va_P (dC, dI) vwCl (vX4_oidArc cA m0 m1 m2 m3 m4 m5 m6 m7 m8 m9 cd row sz1 nd tg st ln pa rd of ar dp at_ rs fd pl tx ou wr op on dn node k (nI 0)) _ := hP
                              have hD9 : va_D A (vX4_oidArc cA m0 m1 m2 m3 m4 m5 m6 m7 m8 m9 cd row sz1 nd tg st ln pa rd of ar dp at_ rs fd pl tx ou wr op on dn node k (nI 0)) := hD
                              have hq9 : pX4_oidArc m0 m1 m2 m3 m4 m5 m6 m7 m8 m9 cd row sz1 nd tg st ln pa rd of ar dp at_ rs fd pl tx ou wr op on dn node k (((lN (vv - 40 * 1)).toInt32)) (nI 0) := ⟨(by first | (exfalso; omega) | (show _ = if _ then _ else _; rw [if_pos ⟨hnm, by assumption, hk0⟩]; unfold oidS; rw [← hix]; rw [← hinv, partS_at (i := st node.toNatClampNeg + i) (by omega), if_pos (show row (st node.toNatClampNeg + i) < 128 by omega), if_pos (by omega), arcR_of hcap2]; unfold arcV; (first | rw [if_pos (show k.toNatClampNeg = 0 by omega)] | rw [if_neg (show ¬ k.toNatClampNeg = 0 by omega), if_pos (show k.toNatClampNeg = 1 by omega)] | rw [if_neg (show ¬ k.toNatClampNeg = 0 by omega), if_neg (show ¬ k.toNatClampNeg = 1 by omega)]); (try rw [hfst]); first | rw [if_pos (by omega)] | (rw [if_neg (by omega)]; exact lN_i _))), rfl⟩
                              exact W.iret (v := ((lN (vv - 40 * 1)).toInt32)) hx hb hr (fun t ht hW => ⟨⟨((lN (vv - 40 * 1)).toInt32), (nI 0), rfl, hq9, by rw [ht]; exact hP9, va_K.moved hW.alike hK, hD9⟩, hS.F ht⟩) hS.2.2 dX4_oidArc_178
                            · have c_36 := lle_f (by omega) (by omega) c_36
                              refine lv_bipush (v := (-2)) hx hb dX4_oidArc_170 (by decide) ?_
                              refine lv_goto (tgt := 178) hx hb dX4_oidArc_172 (by decide) ?_
                              have hP9 : va_P (dC, dI) vwCl (vX4_oidArc cA m0 m1 m2 m3 m4 m5 m6 m7 m8 m9 cd row sz1 nd tg st ln pa rd of ar dp at_ rs fd pl tx ou wr op on dn node k (nI 0)) _ := hP
                              have hD9 : va_D A (vX4_oidArc cA m0 m1 m2 m3 m4 m5 m6 m7 m8 m9 cd row sz1 nd tg st ln pa rd of ar dp at_ rs fd pl tx ou wr op on dn node k (nI 0)) := hD
                              have hq9 : pX4_oidArc m0 m1 m2 m3 m4 m5 m6 m7 m8 m9 cd row sz1 nd tg st ln pa rd of ar dp at_ rs fd pl tx ou wr op on dn node k ((-2)) (nI 0) := ⟨(by first | (exfalso; omega) | (show _ = if _ then _ else _; rw [if_pos ⟨hnm, by assumption, hk0⟩]; unfold oidS; rw [← hix]; rw [← hinv, partS_at (i := st node.toNatClampNeg + i) (by omega), if_pos (show row (st node.toNatClampNeg + i) < 128 by omega), if_pos (by omega), arcR_of hcap2]; unfold arcV; (first | rw [if_pos (show k.toNatClampNeg = 0 by omega)] | rw [if_neg (show ¬ k.toNatClampNeg = 0 by omega), if_pos (show k.toNatClampNeg = 1 by omega)] | rw [if_neg (show ¬ k.toNatClampNeg = 0 by omega), if_neg (show ¬ k.toNatClampNeg = 1 by omega)]); (try rw [hfst]); first | rw [if_pos (by omega)] | (rw [if_neg (by omega)]; exact lN_i _))), rfl⟩
                              exact W.iret (v := (-2)) hx hb hr (fun t ht hW => ⟨⟨(-2), (nI 0), rfl, hq9, by rw [ht]; exact hP9, va_K.moved hW.alike hK, hD9⟩, hS.F ht⟩) hS.2.2 dX4_oidArc_178
                        · refine lv_lload hx hb dX4_oidArc_139 (lv_at hl 0 rfl) ?_
                          refine lv_l2i (v := (lN 1).toInt32) hx hb dX4_oidArc_141 rfl ?_
                          have hP9 : va_P (dC, dI) vwCl (vX4_oidArc cA m0 m1 m2 m3 m4 m5 m6 m7 m8 m9 cd row sz1 nd tg st ln pa rd of ar dp at_ rs fd pl tx ou wr op on dn node k (nI 0)) _ := hP
                          have hD9 : va_D A (vX4_oidArc cA m0 m1 m2 m3 m4 m5 m6 m7 m8 m9 cd row sz1 nd tg st ln pa rd of ar dp at_ rs fd pl tx ou wr op on dn node k (nI 0)) := hD
                          have hq9 : pX4_oidArc m0 m1 m2 m3 m4 m5 m6 m7 m8 m9 cd row sz1 nd tg st ln pa rd of ar dp at_ rs fd pl tx ou wr op on dn node k (((lN 1).toInt32)) (nI 0) := ⟨(by first | (exfalso; omega) | (show _ = if _ then _ else _; rw [if_pos ⟨hnm, by assumption, hk0⟩]; unfold oidS; rw [← hix]; rw [← hinv, partS_at (i := st node.toNatClampNeg + i) (by omega), if_pos (show row (st node.toNatClampNeg + i) < 128 by omega), if_pos (by omega), arcR_of hcap2]; unfold arcV; (first | rw [if_pos (show k.toNatClampNeg = 0 by omega)] | rw [if_neg (show ¬ k.toNatClampNeg = 0 by omega), if_pos (show k.toNatClampNeg = 1 by omega)] | rw [if_neg (show ¬ k.toNatClampNeg = 0 by omega), if_neg (show ¬ k.toNatClampNeg = 1 by omega)]); (try rw [hfst]); rw [if_neg (by omega)]; exact lN_i _)), rfl⟩
                          exact W.iret (v := ((lN 1).toInt32)) hx hb hr (fun t ht hW => ⟨⟨((lN 1).toInt32), (nI 0), rfl, hq9, by rw [ht]; exact hP9, va_K.moved hW.alike hK, hD9⟩, hS.F ht⟩) hS.2.2 dX4_oidArc_142
                    · have c_29 := lge_f (by omega) (by omega) c_29
                      refine lv_lconst (v := lN 0) hx hb dX4_oidArc_113 (by decide) ?_
                      refine lv_goto (tgt := 133) hx hb dX4_oidArc_114 (by decide) ?_
                      have hfst : fst1 (vv) = 0 := by first | (exfalso; omega) | (unfold fst1; first | rw [if_pos (by omega)] | rw [if_neg (by omega), if_pos (by omega)] | rw [if_neg (by omega), if_neg (by omega)])
                      refine lv_lstore (lv' := [(8, .long (lN 0)), (4, .long (lN vv)), (7, .int (nI (row ((st node.toNatClampNeg) + i)))), (6, .int (nI i)), (3, .int (nI ac)), (0, .ref m0), (1, .int (nI node.toNatClampNeg)), (2, .int (nI k.toNatClampNeg))]) hx hb dX4_oidArc_133 hl (by decide) rfl (fun ls hl => ?_)
                      refine lv_iload_n hx hb dX4_oidArc_135 rfl (lv_at hl 7 rfl) ?_
                      refine hl_if_ne (tgt := 143) hx hb dX4_oidArc_136 (by decide) (by omega) (fun c_37 => ?_) (fun c_37 => ?_)
                      · refine lv_lload hx hb dX4_oidArc_143 (lv_at hl 1 rfl) ?_
                        refine lv_ldc2 (v := 40) hx hb hown (hts (.constantLong RX4 101 (40)) (by decide +kernel)) dX4_oidArc_145 ?_
                        rw [show (40 : Int64) = lN 40 from rfl]
                        refine lv_lload hx hb dX4_oidArc_148 (lv_at hl 0 rfl) ?_
                        refine lv_lmul hx hb dX4_oidArc_150 ?_
                        refine lv_lsub hx hb dX4_oidArc_151 ?_
                        refine hl_topl (show _ = lN (vv - 40 * 0) by rw [lN_mul, lN_sub (by omega)]) ?_
                        refine lv_lstore (lv' := [(4, .long (lN (vv - 40 * 0))), (8, .long (lN 0)), (7, .int (nI (row ((st node.toNatClampNeg) + i)))), (6, .int (nI i)), (3, .int (nI ac)), (0, .ref m0), (1, .int (nI node.toNatClampNeg)), (2, .int (nI k.toNatClampNeg))]) hx hb dX4_oidArc_152 hl (by decide) rfl (fun ls hl => ?_)
                        refine lv_iconst (v := nI 1) hx hb dX4_oidArc_154 (by decide) ?_
                        refine lv_istore_n (lv' := [(3, .int (nI 1)), (4, .long (lN (vv - 40 * 0))), (8, .long (lN 0)), (7, .int (nI (row ((st node.toNatClampNeg) + i)))), (6, .int (nI i)), (0, .ref m0), (1, .int (nI node.toNatClampNeg)), (2, .int (nI k.toNatClampNeg))]) hx hb dX4_oidArc_155 rfl hl (by decide) rfl (fun ls hl => ?_)
                        refine lv_iload_n hx hb dX4_oidArc_156 rfl (lv_at hl 0 rfl) ?_
                        refine lv_iload_n hx hb dX4_oidArc_157 rfl (lv_at hl 7 rfl) ?_
                        refine hl_icmp_ne (tgt := 179) hx hb dX4_oidArc_158 (by decide) (by omega) (by omega) (fun c_38 => ?_) (fun c_38 => ?_)
                        · refine lv_iinc (v := (nI 2)) (lv' := [(3, .int (nI 2)), (4, .long (lN (vv - 40 * 0))), (8, .long (lN 0)), (7, .int (nI (row ((st node.toNatClampNeg) + i)))), (6, .int (nI i)), (0, .ref m0), (1, .int (nI node.toNatClampNeg)), (2, .int (nI k.toNatClampNeg))]) hx hb dX4_oidArc_179 hl (k := 0) rfl (by decide) (by decide) rfl (fun ls hl => ?_)
                          refine lv_lconst (v := lN 0) hx hb dX4_oidArc_182 (by decide) ?_
                          refine lv_lstore (lv' := [(4, .long (lN 0)), (3, .int (nI 2)), (8, .long (lN 0)), (7, .int (nI (row ((st node.toNatClampNeg) + i)))), (6, .int (nI i)), (0, .ref m0), (1, .int (nI node.toNatClampNeg)), (2, .int (nI k.toNatClampNeg))]) hx hb dX4_oidArc_183 hl (by decide) rfl (fun ls hl => ?_)
                          refine lv_iinc (v := (nI (i + 1))) (lv' := [(6, .int (nI (i + 1))), (4, .long (lN 0)), (3, .int (nI 2)), (8, .long (lN 0)), (7, .int (nI (row ((st node.toNatClampNeg) + i)))), (0, .ref m0), (1, .int (nI node.toNatClampNeg)), (2, .int (nI k.toNatClampNeg))]) hx hb dX4_oidArc_185 hl (k := 4) rfl (nI_inc i 1) (by decide) rfl (fun ls hl => ?_)
                          refine lv_goto (tgt := 33) hx hb dX4_oidArc_188 (by decide) ?_
                          exact ih_33 (i + 1) 2 0 0 (by omega) (by omega) (by omega) (by omega) (by first | exact capR_0 | exact hcap2) (by first | (exfalso; omega) | (rw [← hinv, partS_at (i := st node.toNatClampNeg + i) (by omega), show st node.toNatClampNeg + (i + 1) = st node.toNatClampNeg + i + 1 by omega]; first | rw [if_neg (show ¬ row (st node.toNatClampNeg + i) < 128 by omega)] | (rw [if_pos (show row (st node.toNatClampNeg + i) < 128 by omega), if_neg (by omega)]; congr 1; omega))) _ _ _ hP hD hS (lv_sub hl [0, 1, 2, 5, 6, 7] rfl)
                        · refine lv_lload hx hb dX4_oidArc_161 (lv_at hl 1 rfl) ?_
                          refine lv_ldc2 (v := 2147483647) hx hb hown (hts (.constantLong RX4 107 (2147483647)) (by decide +kernel)) dX4_oidArc_163 ?_
                          rw [show (2147483647 : Int64) = lN 2147483647 from rfl]
                          refine W.lcmp hx hb dX4_oidArc_166 ?_
                          refine lv_if_le (tgt := 175) hx hb dX4_oidArc_167 (by decide) (fun c_39 => ?_) (fun c_39 => ?_)
                          · have c_39 := lle_t (by omega) (by omega) c_39
                            refine lv_lload hx hb dX4_oidArc_175 (lv_at hl 1 rfl) ?_
                            refine lv_l2i (v := (lN (vv - 40 * 0)).toInt32) hx hb dX4_oidArc_177 rfl ?_
                            have hP9 : va_P (dC, dI) vwCl (vX4_oidArc cA m0 m1 m2 m3 m4 m5 m6 m7 m8 m9 cd row sz1 nd tg st ln pa rd of ar dp at_ rs fd pl tx ou wr op on dn node k (nI 0)) _ := hP
                            have hD9 : va_D A (vX4_oidArc cA m0 m1 m2 m3 m4 m5 m6 m7 m8 m9 cd row sz1 nd tg st ln pa rd of ar dp at_ rs fd pl tx ou wr op on dn node k (nI 0)) := hD
                            have hq9 : pX4_oidArc m0 m1 m2 m3 m4 m5 m6 m7 m8 m9 cd row sz1 nd tg st ln pa rd of ar dp at_ rs fd pl tx ou wr op on dn node k (((lN (vv - 40 * 0)).toInt32)) (nI 0) := ⟨(by first | (exfalso; omega) | (show _ = if _ then _ else _; rw [if_pos ⟨hnm, by assumption, hk0⟩]; unfold oidS; rw [← hix]; rw [← hinv, partS_at (i := st node.toNatClampNeg + i) (by omega), if_pos (show row (st node.toNatClampNeg + i) < 128 by omega), if_pos (by omega), arcR_of hcap2]; unfold arcV; (first | rw [if_pos (show k.toNatClampNeg = 0 by omega)] | rw [if_neg (show ¬ k.toNatClampNeg = 0 by omega), if_pos (show k.toNatClampNeg = 1 by omega)] | rw [if_neg (show ¬ k.toNatClampNeg = 0 by omega), if_neg (show ¬ k.toNatClampNeg = 1 by omega)]); (try rw [hfst]); first | rw [if_pos (by omega)] | (rw [if_neg (by omega)]; exact lN_i _))), rfl⟩
                            exact W.iret (v := ((lN (vv - 40 * 0)).toInt32)) hx hb hr (fun t ht hW => ⟨⟨((lN (vv - 40 * 0)).toInt32), (nI 0), rfl, hq9, by rw [ht]; exact hP9, va_K.moved hW.alike hK, hD9⟩, hS.F ht⟩) hS.2.2 dX4_oidArc_178
                          · have c_39 := lle_f (by omega) (by omega) c_39
                            refine lv_bipush (v := (-2)) hx hb dX4_oidArc_170 (by decide) ?_
                            refine lv_goto (tgt := 178) hx hb dX4_oidArc_172 (by decide) ?_
                            have hP9 : va_P (dC, dI) vwCl (vX4_oidArc cA m0 m1 m2 m3 m4 m5 m6 m7 m8 m9 cd row sz1 nd tg st ln pa rd of ar dp at_ rs fd pl tx ou wr op on dn node k (nI 0)) _ := hP
                            have hD9 : va_D A (vX4_oidArc cA m0 m1 m2 m3 m4 m5 m6 m7 m8 m9 cd row sz1 nd tg st ln pa rd of ar dp at_ rs fd pl tx ou wr op on dn node k (nI 0)) := hD
                            have hq9 : pX4_oidArc m0 m1 m2 m3 m4 m5 m6 m7 m8 m9 cd row sz1 nd tg st ln pa rd of ar dp at_ rs fd pl tx ou wr op on dn node k ((-2)) (nI 0) := ⟨(by first | (exfalso; omega) | (show _ = if _ then _ else _; rw [if_pos ⟨hnm, by assumption, hk0⟩]; unfold oidS; rw [← hix]; rw [← hinv, partS_at (i := st node.toNatClampNeg + i) (by omega), if_pos (show row (st node.toNatClampNeg + i) < 128 by omega), if_pos (by omega), arcR_of hcap2]; unfold arcV; (first | rw [if_pos (show k.toNatClampNeg = 0 by omega)] | rw [if_neg (show ¬ k.toNatClampNeg = 0 by omega), if_pos (show k.toNatClampNeg = 1 by omega)] | rw [if_neg (show ¬ k.toNatClampNeg = 0 by omega), if_neg (show ¬ k.toNatClampNeg = 1 by omega)]); (try rw [hfst]); first | rw [if_pos (by omega)] | (rw [if_neg (by omega)]; exact lN_i _))), rfl⟩
                            exact W.iret (v := (-2)) hx hb hr (fun t ht hW => ⟨⟨(-2), (nI 0), rfl, hq9, by rw [ht]; exact hP9, va_K.moved hW.alike hK, hD9⟩, hS.F ht⟩) hS.2.2 dX4_oidArc_178
                      · refine lv_lload hx hb dX4_oidArc_139 (lv_at hl 0 rfl) ?_
                        refine lv_l2i (v := (lN 0).toInt32) hx hb dX4_oidArc_141 rfl ?_
                        have hP9 : va_P (dC, dI) vwCl (vX4_oidArc cA m0 m1 m2 m3 m4 m5 m6 m7 m8 m9 cd row sz1 nd tg st ln pa rd of ar dp at_ rs fd pl tx ou wr op on dn node k (nI 0)) _ := hP
                        have hD9 : va_D A (vX4_oidArc cA m0 m1 m2 m3 m4 m5 m6 m7 m8 m9 cd row sz1 nd tg st ln pa rd of ar dp at_ rs fd pl tx ou wr op on dn node k (nI 0)) := hD
                        have hq9 : pX4_oidArc m0 m1 m2 m3 m4 m5 m6 m7 m8 m9 cd row sz1 nd tg st ln pa rd of ar dp at_ rs fd pl tx ou wr op on dn node k (((lN 0).toInt32)) (nI 0) := ⟨(by first | (exfalso; omega) | (show _ = if _ then _ else _; rw [if_pos ⟨hnm, by assumption, hk0⟩]; unfold oidS; rw [← hix]; rw [← hinv, partS_at (i := st node.toNatClampNeg + i) (by omega), if_pos (show row (st node.toNatClampNeg + i) < 128 by omega), if_pos (by omega), arcR_of hcap2]; unfold arcV; (first | rw [if_pos (show k.toNatClampNeg = 0 by omega)] | rw [if_neg (show ¬ k.toNatClampNeg = 0 by omega), if_pos (show k.toNatClampNeg = 1 by omega)] | rw [if_neg (show ¬ k.toNatClampNeg = 0 by omega), if_neg (show ¬ k.toNatClampNeg = 1 by omega)]); (try rw [hfst]); rw [if_neg (by omega)]; exact lN_i _)), rfl⟩
                        exact W.iret (v := ((lN 0).toInt32)) hx hb hr (fun t ht hW => ⟨⟨((lN 0).toInt32), (nI 0), rfl, hq9, by rw [ht]; exact hP9, va_K.moved hW.alike hK, hD9⟩, hS.F ht⟩) hS.2.2 dX4_oidArc_142
                · refine lv_goto (tgt := 185) hx hb dX4_oidArc_97 (by decide) ?_
                  refine lv_iinc (v := (nI (i + 1))) (lv' := [(6, .int (nI (i + 1))), (4, .long (lN vv)), (7, .int (nI (row ((st node.toNatClampNeg) + i)))), (3, .int (nI ac)), (0, .ref m0), (1, .int (nI node.toNatClampNeg)), (2, .int (nI k.toNatClampNeg))]) hx hb dX4_oidArc_185 hl (k := 2) rfl (nI_inc i 1) (by decide) rfl (fun ls hl => ?_)
                  refine lv_goto (tgt := 33) hx hb dX4_oidArc_188 (by decide) ?_
                  exact ih_33 (i + 1) ac vv (cu * 128 + row (st node.toNatClampNeg + i) % 128) (by omega) (by omega) (by omega) (by omega) (by first | exact capR_0 | exact hcap2) (by first | (exfalso; omega) | (rw [← hinv, partS_at (i := st node.toNatClampNeg + i) (by omega), show st node.toNatClampNeg + (i + 1) = st node.toNatClampNeg + i + 1 by omega]; first | rw [if_neg (show ¬ row (st node.toNatClampNeg + i) < 128 by omega)] | (rw [if_pos (show row (st node.toNatClampNeg + i) < 128 by omega), if_neg (by omega)]; congr 1; omega))) _ _ _ hP hD hS (lv_sub hl [0, 1, 3, 4, 5, 6] rfl)
        exact lp_33 (ln node.toNatClampNeg - 0 + 1) 0 0 0 0 (Nat.lt_succ_self _) (by omega) (Or.inl rfl) (by omega) capR_0 (by rw [Nat.add_zero, Nat.add_sub_cancel_left]) _ _ _ hP hD hS (lv_sub hl [0, 1, 2, 3, 4, 5] rfl)
      · refine lv_iconst (v := (-1)) hx hb dX4_oidArc_23 (by decide) ?_
        have hP9 : va_P (dC, dI) vwCl (vX4_oidArc cA m0 m1 m2 m3 m4 m5 m6 m7 m8 m9 cd row sz1 nd tg st ln pa rd of ar dp at_ rs fd pl tx ou wr op on dn node k (nI 0)) _ := hP
        have hD9 : va_D A (vX4_oidArc cA m0 m1 m2 m3 m4 m5 m6 m7 m8 m9 cd row sz1 nd tg st ln pa rd of ar dp at_ rs fd pl tx ou wr op on dn node k (nI 0)) := hD
        have hq9 : pX4_oidArc m0 m1 m2 m3 m4 m5 m6 m7 m8 m9 cd row sz1 nd tg st ln pa rd of ar dp at_ rs fd pl tx ou wr op on dn node k ((-1)) (nI 0) := ⟨(if_neg (fun h => by first | exact absurd h.1 (by assumption) | exact absurd h.2.1 (by assumption) | exact absurd (by assumption : 0 ≤ k) (fun z => h.2.2 (by exact Int32.not_le.mp z)) | grind)).symm, rfl⟩
        exact W.iret (v := (-1)) hx hb hr (fun t ht hW => ⟨⟨(-1), (nI 0), rfl, hq9, by rw [ht]; exact hP9, va_K.moved hW.alike hK, hD9⟩, hS.F ht⟩) hS.2.2 dX4_oidArc_24
